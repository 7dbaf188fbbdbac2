/-! numbers -/
def bI (p : Prop) [Decidable p] : Int32 := if p then 1 else 0
theorem bI_t {p : Prop} [Decidable p] (h : p) : bI p = 1 := if_pos h
theorem bI_f {p : Prop} [Decidable p] (h : ¬ p) : bI p = 0 := if_neg h
theorem bI_0 {p : Prop} [Decidable p] : (bI p = 0) = ¬ p := by
  by_cases h : p <;> simp [bI, h]
theorem bI_01 {p : Prop} [Decidable p] : bI p = 0 ∨ bI p = 1 := by
  by_cases h : p <;> simp [bI, h]
theorem bI_1 {p : Prop} [Decidable p] : (bI p = 1) = p := by
  by_cases h : p <;> simp [bI, h]
theorem nI_one : nI 1 = 1 := by decide +kernel
theorem nI_z {a : Nat} (h : a < 2 ^ 31) : (nI a < 0) = False := eq_false (nI_pos h)
theorem nI_p {a : Nat} (h : a < 2 ^ 31) : (0 ≤ nI a) = True := eq_true (nI_pos' h)
theorem nI_e0 {a : Nat} (h : a < 2 ^ 31) : (nI a = 0) = (a = 0) := by
  rw [← nI_0, nI_eq h (by decide)]
theorem nI_l0 {a : Nat} (h : a < 2 ^ 31) : (0 < nI a) = (0 < a) := by
  rw [← nI_0, nI_ltI (by decide) h]
theorem nI_le0 {a : Nat} (h : a < 2 ^ 31) : (nI a ≤ 0) = (a = 0) := by
  rw [← nI_0, nI_leI h (by decide)]; exact propext Nat.le_zero
theorem nI_lt' {a b : Nat} (ha : a < 2 ^ 31) (hb : b < 2 ^ 31) : (nI a < nI b) = (a < b) := propext (nI_ltI ha hb)
theorem nI_le' {a b : Nat} (ha : a < 2 ^ 31) (hb : b < 2 ^ 31) : (nI a ≤ nI b) = (a ≤ b) := propext (nI_leI ha hb)
theorem nI_eq' {a b : Nat} (ha : a < 2 ^ 31) (hb : b < 2 ^ 31) : (nI a = nI b) = (a = b) := propext (nI_eq ha hb)
theorem nI_inj {a b : Nat} (ha : a < 2 ^ 31) (hb : b < 2 ^ 31) (h : nI a = nI b) : a = b := (nI_eq ha hb).mp h
/-- an int between two bounds -/
theorem ab_ix {x : Int32} {n : Nat} (hn : n < 2 ^ 31) (h0 : ¬ x < 0) (h1 : x < nI n) : ∃ k, k < n ∧ x = nI k := by
  rcases pk_ix x hn with h | h | h
  · exact absurd h h0
  · exact absurd h1 (Int32.not_lt.mpr h)
  · exact h
theorem ab_ixle {x : Int32} {n : Nat} (hn : n + 1 < 2 ^ 31) (h0 : 0 ≤ x) (h1 : x ≤ nI n) : ∃ k, k ≤ n ∧ x = nI k := by
  obtain ⟨k, hk, e⟩ := ab_ix (x := x) (n := n + 1) hn (Int32.not_lt.mpr h0) (by
    rw [Int32.lt_iff_toInt_lt, nI_toInt hn]
    rw [Int32.le_iff_toInt_le, nI_toInt (by omega)] at h1
    omega)
  exact ⟨k, by omega, e⟩
theorem ab_vp {i : Int32} {k n : Nat} (e : i = nI k) (h : k < n) (hn : n < 2 ^ 31) : vp_in i n := e ▸ vp_in_nI h hn
theorem i32_le_lt {x y : Int32} : (¬ x < y) = (y ≤ x) := propext Int32.not_lt
theorem i32_nle {x y : Int32} : (¬ x ≤ y) = (y < x) := propext Int32.not_le
/-! what a write leaves -/
theorem up_ne {σ : ab_H} {a k b : Nat} {x : Int32} (h : b ≠ a) : ab_up σ a k x b = σ b := ab_up_ne h
theorem up_eq {σ : ab_H} {a k j : Nat} {x : Int32} : ab_up σ a k x a j = if j = k then x else σ a j := by simp [ab_up]
theorem cp_ne {σ : ab_H} {a b n v : Nat} (h : v ≠ b) : ab_cp σ a b n v = σ v := ab_cp_ne h
theorem cp_eq {σ : ab_H} {a b n j : Nat} : ab_cp σ a b n b j = if j < n then σ a j else σ b j := by simp [ab_cp]
/-! shapes of the objects in a world -/
def wS (w : ab_W) (a : Nat) : Prop := ab_kd w a = 7 ∧ ab_kd w (a + 1) = 11 ∧ ab_kd w (a + 2) = 11 ∧ ab_kd w (a + 3) = 11 ∧ ab_kd w (a + 4) = 11 ∧ ab_kd w (a + 5) = 11 ∧ ab_kd w (a + 6) = 11 ∧ ab_kd w (a + 7) = 11 ∧ ab_ln w (a + 1) = 5 ∧ ab_ln w (a + 2) = 5 ∧ ab_ln w (a + 3) = 5 ∧ ab_ln w (a + 4) = 5 ∧ ab_ln w (a + 5) = 5 ∧ ab_ln w (a + 6) = 5 ∧ ab_ln w (a + 7) = 25
def wF (w : ab_W) (a : Nat) : Prop := ab_kd w a = 0 ∧ ab_kd w (a + 1) = 11 ∧ ab_kd w (a + 2) = 11 ∧ ab_kd w (a + 3) = 11 ∧ ab_kd w (a + 4) = 11 ∧ ab_ln w (a + 1) = 6 ∧ ab_ln w (a + 2) = 6 ∧ ab_ln w (a + 3) = 6 ∧ ab_ln w (a + 4) = 6
def wO (w : ab_W) (a : Nat) : Prop := ab_kd w a = 4 ∧ ab_kd w (a + 1) = 11 ∧ ab_kd w (a + 2) = 11 ∧ ab_kd w (a + 3) = 11 ∧ ab_kd w (a + 4) = 11 ∧ ab_ln w (a + 1) = 8 ∧ ab_ln w (a + 2) = 8 ∧ ab_ln w (a + 3) = 8 ∧ ab_ln w (a + 4) = 8
def wB (w : ab_W) (a : Nat) : Prop := ab_kd w a = 5 ∧ ab_kd w (a + 1) = 11 ∧ ab_kd w (a + 2) = 11 ∧ ab_kd w (a + 3) = 11 ∧ ab_ln w (a + 1) = 150 ∧ ab_ln w (a + 2) = 150 ∧ ab_ln w (a + 3) = 150
def wG (w : ab_W) (a : Nat) : Prop := ab_kd w a = 1 ∧ ab_kd w (a + 1) = 11 ∧ ab_kd w (a + 2) = 11 ∧ ab_kd w (a + 3) = 11 ∧ ab_ln w (a + 1) = 12 ∧ ab_ln w (a + 2) = 12 ∧ ab_ln w (a + 3) = 12
def wN (w : ab_W) (b : Nat) : Prop := ab_kd w b = 3 ∧ wS w (b + 1) ∧ wF w (b + 9) ∧ wO w (b + 14) ∧ wB w (b + 19) ∧ wG w (b + 23) ∧ ab_kd w (b + 27) = 11 ∧ ab_ln w (b + 27) = 4 ∧ ab_kd w (b + 28) = 11 ∧ ab_ln w (b + 28) = 5
/-- a row of the reference -/
def wR (w : ab_W) (a : Nat) : Prop := ab_kd w a = 11 ∧ ab_ln w a = 304
theorem nz_2 : (nI 2 = 0) = False := by decide +kernel
theorem nz_4 : (nI 4 = 0) = False := by decide +kernel
theorem nz_5 : (nI 5 = 0) = False := by decide +kernel
theorem nz_8 : (nI 8 = 0) = False := by decide +kernel
theorem nz_10 : (nI 10 = 0) = False := by decide +kernel
theorem nz_12 : (nI 12 = 0) = False := by decide +kernel
theorem nz_14 : (nI 14 = 0) = False := by decide +kernel
theorem nz_16 : (nI 16 = 0) = False := by decide +kernel
theorem nz_40 : (nI 40 = 0) = False := by decide +kernel
theorem nz_41 : (nI 41 = 0) = False := by decide +kernel
theorem nz_64 : (nI 64 = 0) = False := by decide +kernel
theorem nz_100 : (nI 100 = 0) = False := by decide +kernel
theorem nz_1000 : (nI 1000 = 0) = False := by decide +kernel
theorem nz_1024 : (nI 1024 = 0) = False := by decide +kernel
theorem nz_4096 : (nI 4096 = 0) = False := by decide +kernel
theorem nz_10000 : (nI 10000 = 0) = False := by decide +kernel
theorem nz_100000 : (nI 100000 = 0) = False := by decide +kernel

theorem m1_0 : nI 0 + (-1) = -1 := by decide +kernel
theorem m1_n : ((-1 : Int32) < 0) = True := by decide +kernel
theorem m1_p : (0 ≤ (-1 : Int32)) = False := by decide +kernel
theorem m1_ne {k : Nat} (h : k < 2 ^ 31) : (nI k = -1) = False := eq_false (fun q => by
  have := congrArg Int32.toInt q
  rw [nI_toInt h, show (-1 : Int32).toInt = -1 by decide +kernel] at this
  omega)
def dst (u v : Nat) : Nat := if u < v then v - u else u - v
theorem n_dst {u v : Nat} (hu : u < 2 ^ 30) (hv : v < 2 ^ 30) : (if 0 ≤ nI u - nI v then nI u - nI v else 0 - (nI u - nI v)) = nI (dst u v) := by
  unfold dst
  by_cases h : u < v
  · rw [if_pos h, if_neg (Int32.not_le.mpr (pk_sneg hv h)), ← pk_sub (Nat.le_of_lt h)]
    first
      | (rw [Int32.zero_sub, Int32.neg_sub])
      | (apply Int32.toBitVec_inj.mp; simp [BitVec.sub_eq_add_neg, BitVec.neg_add, BitVec.add_comm])
  · rw [if_neg h, pk_sub (by omega), if_pos (nI_pos' (by omega))]
theorem up_eqp {σ : ab_H} {a k b j : Nat} {x : Int32} (h1 : b = a) (h2 : j = k) : ab_up σ a k x b j = x := by rw [h1, h2]; simp [ab_up]
theorem up_nep {σ : ab_H} {a k b j : Nat} {x : Int32} (h2 : j ≠ k) : ab_up σ a k x b j = σ b j := by simp [ab_up, h2]
theorem upd_eqp {f : Nat → Int32} {k j : Nat} {x : Int32} (h : j = k) : upd f k x j = x := if_pos h
theorem upd_nep {f : Nat → Int32} {k j : Nat} {x : Int32} (h : j ≠ k) : upd f k x j = f j := if_neg h
theorem cp_eqp {σ : ab_H} {a b n v j : Nat} (h1 : v = b) (h2 : j < n) : ab_cp σ a b n v j = σ a j := by simp [ab_cp, h1, h2]
theorem getq {α : Type} {l : List α} {k : Nat} {x : α} (h : l[k]? = some x) : k < l.length := (List.getElem?_eq_some_iff.mp h).1
