/-! the number of bits of a long, as the sketch's library counts them -/
def m5 : Nat → Nat
  | 0 => 0
  | k + 1 => 85 + 256 * m5 k
def m3 : Nat → Nat
  | 0 => 0
  | k + 1 => 51 + 256 * m3 k
def mF : Nat → Nat
  | 0 => 0
  | k + 1 => 15 + 256 * mF k
def q1 (k n : Nat) : Nat := n - ((n / 2) &&& m5 k)
def q2 (k n : Nat) : Nat := (q1 k n &&& m3 k) + ((q1 k n / 4) &&& m3 k)
def q3 (k n : Nat) : Nat := (q2 k n + q2 k n / 16) &&& mF k
def c1 (b : Nat) : Nat := b - ((b / 2) &&& 85)
def c2 (b : Nat) : Nat := (c1 b &&& 51) + ((c1 b / 4) &&& 51)
def c3 (b : Nat) : Nat := (c2 b + c2 b / 16) &&& 15
theorem and_split {x y u v : Nat} (hx : x < 256) (hu : u < 256) : (x + 256 * y) &&& (u + 256 * v) = (x &&& u) + 256 * (y &&& v) := by
  have h1 : ((x + 256 * y) &&& (u + 256 * v)) % 2 ^ 8 = x &&& u := by
    rw [Nat.and_mod_two_pow]
    rw [show (x + 256 * y) % 2 ^ 8 = x by omega, show (u + 256 * v) % 2 ^ 8 = u by omega]
  have h2 : ((x + 256 * y) &&& (u + 256 * v)) / 2 ^ 8 = y &&& v := by
    rw [Nat.and_div_two_pow]
    rw [show (x + 256 * y) / 2 ^ 8 = y by omega, show (u + 256 * v) / 2 ^ 8 = v by omega]
  have := Nat.div_add_mod ((x + 256 * y) &&& (u + 256 * v)) (2 ^ 8)
  rw [h1, h2] at this
  omega
theorem byte1 : ∀ b, b < 256 → (∀ e, e < 2 → (b / 2 + 128 * e) &&& 85 = (b / 2) &&& 85) ∧ ((b / 2) &&& 85) ≤ b := by decide +kernel
theorem byte2 : ∀ b, b < 256 → ∀ e, e < 4 → (b / 4 + 64 * e) &&& 51 = (b / 4) &&& 51 := by decide +kernel
theorem byte3 : ∀ b, b < 256 → (∀ e, e < 5 → (c2 b + c2 b / 16 + 16 * e) &&& 15 = c3 b) ∧ c2 b % 16 ≤ 4 ∧ c2 b ≤ 68 ∧ c3 b = fb_ct (fun i => b.testBit i) 8 ∧ c1 b < 256 := by decide +kernel
theorem q1_s (k : Nat) {b m : Nat} (hb : b < 256) : q1 (k + 1) (b + 256 * m) = c1 b + 256 * q1 k m := by
  unfold q1 c1
  rw [show (b + 256 * m) / 2 = (b / 2 + 128 * (m % 2)) + 256 * (m / 2) by omega]
  rw [show m5 (k + 1) = 85 + 256 * m5 k from rfl, and_split (by omega) (by omega), (byte1 b hb).1 _ (Nat.mod_lt _ (by omega))]
  have h1 := (byte1 b hb).2
  have h2 : (m / 2 &&& m5 k) ≤ m := Nat.le_trans Nat.and_le_left (Nat.div_le_self _ _)
  omega
theorem q2_s (k : Nat) {b m : Nat} (hb : b < 256) : q2 (k + 1) (b + 256 * m) = c2 b + 256 * q2 k m := by
  have hc := (byte3 b hb).2.2.2.2
  unfold q2 c2
  rw [q1_s k hb]
  rw [show (c1 b + 256 * q1 k m) / 4 = (c1 b / 4 + 64 * (q1 k m % 4)) + 256 * (q1 k m / 4) by omega]
  rw [show m3 (k + 1) = 51 + 256 * m3 k from rfl, and_split hc (by omega), and_split (by omega) (by omega), byte2 _ hc _ (Nat.mod_lt _ (by omega))]
  omega
theorem q2_lo (k m : Nat) : q2 k m % 16 ≤ 4 := by
  cases k with
  | zero => unfold q2; simp [m3]
  | succ k =>
    have e : m = m % 256 + 256 * (m / 256) := by omega
    rw [e, q2_s k (Nat.mod_lt _ (by omega))]
    have := (byte3 (m % 256) (Nat.mod_lt _ (by omega))).2.1
    omega
theorem q3_s (k : Nat) {b m : Nat} (hb : b < 256) : q3 (k + 1) (b + 256 * m) = c3 b + 256 * q3 k m := by
  obtain ⟨h1, h2, h3, -, -⟩ := byte3 b hb
  have h4 := q2_lo k m
  unfold q3
  rw [q2_s k hb]
  rw [show c2 b + 256 * q2 k m + (c2 b + 256 * q2 k m) / 16 = (c2 b + c2 b / 16 + 16 * (q2 k m % 16)) + 256 * (q2 k m + q2 k m / 16) by omega]
  rw [show mF (k + 1) = 15 + 256 * mF k from rfl, and_split (by omega) (by omega), h1 _ (by omega)]
theorem q3_n (k n : Nat) : q3 (k + 1) n = fb_ct (fun i => n.testBit i) 8 + 256 * q3 k (n / 256) := by
  have e : n = n % 256 + 256 * (n / 256) := by omega
  have hb : n % 256 < 256 := Nat.mod_lt _ (by omega)
  have h := q3_s k (m := n / 256) hb
  rw [← e, (byte3 _ hb).2.2.2.1] at h
  rw [h]
  congr 1
  refine fb_ct_cong fun i hi => ?_
  rw [show (256 : Nat) = 2 ^ 8 from rfl, Nat.testBit_mod_two_pow]
  simp [hi]
theorem pop_s (n m : Nat) : fb_ct (fun i => n.testBit i) (8 + m) = fb_ct (fun i => n.testBit i) 8 + fb_ct (fun i => (n / 256).testBit i) m := by
  rw [fb_ct_split]
  congr 1
  refine fb_ct_cong fun i _ => ?_
  rw [show (256 : Nat) = 2 ^ 8 from rfl, Nat.testBit_div_two_pow, Nat.add_comm]
theorem dv32 {a b c d w n : Nat} (ha : a < 1000) (hb : b < 1000) (hc : c < 1000) (hd : d < 1000) (h : n = a + 256 * b + 65536 * c + 16777216 * d + 4294967296 * w) (h2 : a + 256 * b + 65536 * c + 16777216 * d < 4294967296) : n / 4294967296 = w := by
  subst h
  generalize a + 256 * b + 65536 * c + 16777216 * d = z at h2
  omega
theorem sum8 {a b c d e f g h : Nat} (ha : a ≤ 8) (hb : b ≤ 8) (hc : c ≤ 8) (hd : d ≤ 8) (he : e ≤ 8) (hf : f ≤ 8) (hg : g ≤ 8) (hh : h ≤ 8) (v v4 v5 v6 : Nat) (e0 : v = a + 256 * (b + 256 * (c + 256 * (d + 256 * (e + 256 * (f + 256 * (g + 256 * (h + 256 * 0)))))))) (e4 : v4 = v + v / 256) (e5 : v5 = v4 + v4 / 65536) (e6 : v6 = v5 + v5 / 4294967296) : v6 % 128 = a + b + c + d + e + f + g + h ∧ v < 2 ^ 63 ∧ v4 < 2 ^ 63 ∧ v5 < 2 ^ 63 ∧ v6 < 2 ^ 63 := by
  generalize h7 : h + 256 * 0 = w7 at e0
  generalize h6 : g + 256 * w7 = w6 at e0
  generalize h5 : f + 256 * w6 = w5 at e0
  generalize h4 : e + 256 * w5 = w4 at e0
  generalize h3 : d + 256 * w4 = w3 at e0
  generalize h2 : c + 256 * w3 = w2 at e0
  generalize h1 : b + 256 * w2 = w1 at e0
  have f4 : v / 256 = w1 := by clear h1 h2 h3 h4 h5 h6 h7 e4 e5 e6; omega
  have f5 : v4 / 65536 = w2 + w3 := by
    rw [f4] at e4
    have q : v4 = (a + b) + 256 * (b + c) + 65536 * (w2 + w3) := by rw [e4, e0, ← h1, ← h2]; clear h1 h2 h3 h4 h5 h6 h7 e4 e5 e6 e0 f4; omega
    clear h1 h2 h3 h4 h5 h6 h7 e4 e5 e6 e0 f4
    omega
  have f6 : v5 / 4294967296 = w4 + w5 + w6 + w7 := by
    rw [f4] at e4
    rw [f5] at e5
    refine dv32 (a := a + b + c + d) (b := b + c + d + e) (c := c + d + e + f) (d := d + e + f + g) (by omega) (by omega) (by omega) (by omega) ?_ ?_
    · rw [e5, e4, e0, ← h1, ← h2, ← h3, ← h4, ← h5, ← h6]
      clear h1 h2 h3 h4 h5 h6 h7 e4 e5 e6 e0 f4 f5
      omega
    · clear h1 h2 h3 h4 h5 h6 h7 e4 e5 e6 e0 f4 f5
      omega
  rw [f4] at e4
  rw [f5] at e5
  rw [f6] at e6
  have b7 : w7 ≤ 8 := by omega
  have b6 : w6 ≤ 2056 + 8 := by clear e4 e5 e6 e0 f4 f5 f6 h1 h2 h3 h4 h5; omega
  have b5 : w5 ≤ 600000 := by clear e4 e5 e6 e0 f4 f5 f6 h1 h2 h3 h4; omega
  have b4 : w4 ≤ 200000000 := by clear e4 e5 e6 e0 f4 f5 f6 h1 h2 h3; omega
  have b3 : w3 ≤ 100000000000 := by clear e4 e5 e6 e0 f4 f5 f6 h1 h2; omega
  have b2 : w2 ≤ 30000000000000 := by clear e4 e5 e6 e0 f4 f5 f6 h1; omega
  have b1 : w1 ≤ 10000000000000000 := by clear e4 e5 e6 e0 f4 f5 f6; omega
  have b0 : v ≤ 3000000000000000000 := by clear e4 e5 e6 f4 f5 f6; omega
  clear f4 f5 f6
  have t6 : v6 = (a + b + c + d + e + f + g + h) + 256 * (w1 + w2 + w3 + w4 + w5 + w6 + w7) := by
    rw [e6, e5, e4, e0]
    clear e6 e5 e4 e0 b0 b1 b2 b3 b4 b5 b6 b7
    omega
  refine ⟨?_, by omega, by omega, by omega, by omega⟩
  clear e6 e5 e4 e0 b0 b1 b2 b3 b4 b5 b6 b7 h1 h2 h3 h4 h5 h6 h7
  omega
def pop (n : Nat) : Nat := fb_ct (fun i => n.testBit i) 64
theorem lN_lit (n : Nat) : (OfNat.ofNat n : Int64) = lN n := rfl
theorem m5_8 : m5 8 = 6148914691236517205 := by decide +kernel
theorem m3_8 : m3 8 = 3689348814741910323 := by decide +kernel
theorem mF_8 : mF 8 = 1085102592571150095 := by decide +kernel
theorem q1_lt {n : Nat} (hn : n < 2 ^ 64) : q1 8 n < 2 ^ 64 := Nat.lt_of_le_of_lt (Nat.sub_le _ _) hn
theorem bc1_n {n : Nat} (hn : n < 2 ^ 64) : bc1 (lN n) = lN (q1 8 n) := by
  unfold bc1 q1
  rw [show (1 : Int32) = nI 1 from rfl, wb_shr hn (by omega), show (6148914691236517205 : Int64) = lN 6148914691236517205 from rfl, wb_and (by omega) (by omega), lN_sub (Nat.le_trans Nat.and_le_left (Nat.div_le_self _ _)), m5_8, Nat.pow_one]
theorem bc2_n {n : Nat} (hn : n < 2 ^ 64) : bc2 (lN n) = lN (q2 8 n) := by
  have l1 := q1_lt hn
  unfold bc2 q2
  rw [bc1_n hn]
  generalize q1 8 n = q at l1 ⊢
  rw [show (2 : Int32) = nI 2 from rfl, wb_shr l1 (by omega), show (3689348814741910323 : Int64) = lN 3689348814741910323 from rfl, wb_and l1 (by omega), wb_and (by omega) (by omega), lN_add, m3_8, show (2 : Nat) ^ 2 = 4 by omega]
theorem q2_lt (n : Nat) : q2 8 n < 2 ^ 63 := by
  have a1 : (q1 8 n &&& m3 8) ≤ m3 8 := Nat.and_le_right
  have a2 : (q1 8 n / 4 &&& m3 8) ≤ m3 8 := Nat.and_le_right
  unfold q2
  rw [m3_8] at *
  omega
theorem bc3_n {n : Nat} (hn : n < 2 ^ 64) : bc3 (lN n) = lN (q3 8 n) := by
  have l2 := q2_lt n
  unfold bc3 q3
  rw [bc2_n hn]
  generalize q2 8 n = q at l2 ⊢
  rw [show (4 : Int32) = nI 4 from rfl, wb_shr (by omega) (by omega), show (1085102592571150095 : Int64) = lN 1085102592571150095 from rfl, lN_add, wb_and (by omega) (by omega), mF_8, show (2 : Nat) ^ 4 = 16 by omega]
theorem bitc_n {n : Nat} (hn : n < 2 ^ 64) : bitc (lN n) = nI (pop n) := by
  have d3 := bc3_n hn
  have cb : ∀ m : Nat, fb_ct (fun i => m.testBit i) 8 ≤ 8 := fun m => fb_ct_le _ 8
  have e3 : q3 8 n = fb_ct (fun i => n.testBit i) 8 + 256 * (fb_ct (fun i => (n / 256).testBit i) 8 + 256 * (fb_ct (fun i => (n / 256 / 256).testBit i) 8 + 256 * (fb_ct (fun i => (n / 256 / 256 / 256).testBit i) 8 + 256 * (fb_ct (fun i => (n / 256 / 256 / 256 / 256).testBit i) 8 + 256 * (fb_ct (fun i => (n / 256 / 256 / 256 / 256 / 256).testBit i) 8 + 256 * (fb_ct (fun i => (n / 256 / 256 / 256 / 256 / 256 / 256).testBit i) 8 + 256 * (fb_ct (fun i => (n / 256 / 256 / 256 / 256 / 256 / 256 / 256).testBit i) 8 + 256 * 0))))))) := by
    rw [q3_n, q3_n, q3_n, q3_n, q3_n, q3_n, q3_n, q3_n]
    have : ∀ m, q3 0 m = 0 := fun m => by unfold q3; simp [mF]
    rw [this]
  have hs := sum8 (cb _) (cb _) (cb _) (cb _) (cb _) (cb _) (cb _) (cb _) (q3 8 n) _ _ _ e3 rfl rfl rfl
  clear e3
  generalize q3 8 n = v at hs d3
  obtain ⟨s1, s2, s3, s4, s5⟩ := hs
  have d4 : bc4 (lN n) = lN (v + v / 256) := by
    unfold bc4
    rw [d3, show (8 : Int32) = nI 8 from rfl, wb_shr (by omega) (by omega), lN_add, show (2 : Nat) ^ 8 = 256 by omega]
  generalize v + v / 256 = v4 at d4 s1 s3 s4 s5
  have d5 : bc5 (lN n) = lN (v4 + v4 / 65536) := by
    unfold bc5
    rw [d4, show (16 : Int32) = nI 16 from rfl, wb_shr (by omega) (by omega), lN_add, show (2 : Nat) ^ 16 = 65536 by omega]
  generalize v4 + v4 / 65536 = v5 at d5 s1 s4 s5
  have d6 : bc6 (lN n) = lN (v5 + v5 / 4294967296) := by
    unfold bc6
    rw [d5, show (32 : Int32) = nI 32 from rfl, wb_shr (by omega) (by omega), lN_add, show (2 : Nat) ^ 32 = 4294967296 by omega]
  generalize v5 + v5 / 4294967296 = v6 at d6 s1 s5
  unfold bitc
  rw [d6, lN_i, show (127 : Int32) = nI (2 ^ 7 - 1) from rfl, fa_mask, show (2 : Nat) ^ 7 = 128 by omega, s1]
  have hp : pop n = fb_ct (fun i => n.testBit i) (8 + (8 + (8 + (8 + (8 + (8 + (8 + (8 + 0)))))))) := rfl
  rw [hp, pop_s, pop_s, pop_s, pop_s, pop_s, pop_s, pop_s, pop_s, show ∀ p : Nat → Bool, fb_ct p 0 = 0 from fun _ => rfl]
  simp only [Nat.add_assoc, Nat.add_zero]
