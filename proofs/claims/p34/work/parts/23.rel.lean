/-! the class's cells at a net, and the reference's row, hold the value -/
def RS (σ : ab_H) (a : Nat) (f : nF) : Prop := σ a 0 = f 1 ∧ (∀ s, s < cl (f 1) → σ (a + 1) s = f (21 + 11 * s) ∧ σ (a + 2) s = f (22 + 11 * s) ∧ σ (a + 3) s = f (23 + 11 * s) ∧ σ (a + 4) s = f (24 + 11 * s) ∧ σ (a + 5) s = f (30 + 11 * s) ∧ σ (a + 6) s = f (31 + 11 * s) ∧ ∀ k, k < 5 → σ (a + 7) (s * 5 + k) = f (25 + 11 * s + k)) ∧
  ∀ s, cl (f 1) ≤ s → s < 5 → σ (a + 4) s = 0 ∧ σ (a + 5) s = 0 ∧ σ (a + 6) s = 0 ∧ ∀ k, k < 5 → σ (a + 7) (s * 5 + k) = 0
def RF (σ : ab_H) (a : Nat) (f : nF) : Prop := σ a 0 = f 2 ∧ (∀ s, s < cl (f 2) → σ (a + 1) s = f (76 + 4 * s) ∧ σ (a + 2) s = f (77 + 4 * s) ∧ σ (a + 3) s = f (78 + 4 * s) ∧ σ (a + 4) s = f (79 + 4 * s)) ∧ ∀ s, cl (f 2) ≤ s → s < 6 → σ (a + 4) s = 0
def RO (σ : ab_H) (a : Nat) (l : List nO) : Prop := σ a 0 = nI l.length ∧ ∀ k x, l[k]? = some x → σ (a + 1) k = nI x.1 ∧ σ (a + 2) k = nI x.2.1 ∧ σ (a + 3) k = nI x.2.2.1 ∧ σ (a + 4) k = nI x.2.2.2
def RB (σ : ab_H) (a : Nat) (l : List nB) : Prop := σ a 0 = nI l.length ∧ ∀ k x, l[k]? = some x → σ (a + 1) k = nI x.1 ∧ σ (a + 2) k = nI x.2.1 ∧ σ (a + 3) k = nI x.2.2
/-- where the next gap goes, when c have been told -/
def n_nx (c : Nat) : Nat := if c = 0 then 0 else (c - 1) % 12 + 1
theorem n_nx_le (c : Nat) : n_nx c ≤ 12 := by unfold n_nx; split <;> omega
theorem n_nx_mod (c : Nat) : (if n_nx c < 12 then n_nx c else 0) = c % 12 := by
  unfold n_nx
  by_cases h : c = 0
  · rw [if_pos h]; subst h; rfl
  · rw [if_neg h]; split <;> omega
theorem n_nx_s (c : Nat) : n_nx (c + 1) = c % 12 + 1 := by unfold n_nx; rw [if_neg (by omega)]; omega
theorem n_nx_p {c : Nat} (h : 0 < c) : n_nx c = (c - 1) % 12 + 1 := by unfold n_nx; rw [if_neg (by omega)]
def RG (σ : ab_H) (a : Nat) (c : Int32) (l : List nB) : Prop := σ a 0 = c ∧ (∀ k x, l[k]? = some x → σ (a + 1) ((cl c - l.length + k) % 12) = nI x.1 ∧ σ (a + 2) ((cl c - l.length + k) % 12) = nI x.2.1 ∧ σ (a + 3) ((cl c - l.length + k) % 12) = nI x.2.2) ∧ σ a 1 = nI (n_nx (cl c))
def RN (σ : ab_H) (b : Nat) (f : nF) : Prop := σ b 7 = f 0 ∧ σ b 8 = f 3 ∧ σ b 9 = f 4 ∧ σ b 10 = f 6 ∧ σ b 11 = f 7 ∧ σ b 12 = f 8
def RW (σ : ab_H) (a : Nat) (f : nF) : Prop := ∀ h, h < 4 → σ a h = f (17 + h)
def RT (σ : ab_H) (a : Nat) (f : nF) : Prop := ∀ h, h < 5 → σ a h = f (12 + h)
def RC (σ : ab_H) (b : Nat) (n : nT) : Prop := RN σ b n.1 ∧ RS σ (b + 1) n.1 ∧ RF σ (b + 9) n.1 ∧ RO σ (b + 14) n.2.1 ∧ RB σ (b + 19) n.2.2.1 ∧ RG σ (b + 23) (n.1 5) n.2.2.2 ∧ RW σ (b + 27) n.1 ∧ RT σ (b + 28) n.1
/-- nothing but the net at b is touched -/
def Fr (b : Nat) (σ σ' : ab_H) : Prop := ∀ a, (a < b ∨ b + 29 ≤ a) → σ' a = σ a
def RM (r : nF) (n : nT) : Prop := (∀ i, i < 100 → i ≠ 9 → i ≠ 10 → i ≠ 11 → r i = n.1 i) ∧ r 10 = nI n.2.1.length ∧ r 9 = nI n.2.2.1.length ∧ r 11 = nI n.2.2.2.length ∧
  (∀ k x, n.2.1[k]? = some x → r (100 + 4 * k) = nI x.1 ∧ r (101 + 4 * k) = nI x.2.1 ∧ r (102 + 4 * k) = nI x.2.2.1 ∧ r (103 + 4 * k) = nI x.2.2.2) ∧
  (∀ k x, n.2.2.1[k]? = some x → r (144 + k) = nI (100 * x.1 + 10 * x.2.1 + x.2.2)) ∧
  (∀ k x, n.2.2.2[k]? = some x → r (132 + k) = nI (100 * x.1 + 10 * x.2.1 + x.2.2))
def rset (σ : ab_H) (a : Nat) (r : nF) : ab_H := fun v => if v = a then r else σ v
theorem rset_eq {σ : ab_H} {a : Nat} {r : nF} : rset σ a r a = r := if_pos rfl
theorem rset_ne {σ : ab_H} {a v : Nat} {r : nF} (h : v ≠ a) : rset σ a r v = σ v := if_neg h
theorem rset_up {σ : ab_H} {a k : Nat} {x : Int32} : ab_up σ a k x = rset σ a (upd (σ a) k x) := by
  funext v; by_cases h : v = a
  · subst h; rw [rset_eq, ab_up_row]
  · rw [rset_ne h, ab_up_ne h]
theorem rset_rset {σ : ab_H} {a : Nat} {r q : nF} : rset (rset σ a r) a q = rset σ a q := by
  funext v; by_cases h : v = a
  · subst h; simp [rset]
  · simp [rset, h]
theorem rset_self {σ : ab_H} {a : Nat} : rset σ a (σ a) = σ := by
  funext v; by_cases h : v = a
  · subst h; simp [rset]
  · simp [rset, h]
theorem rset_id {σ : ab_H} {a : Nat} {r : nF} (h : r = σ a) : rset σ a r = σ := by rw [h, rset_self]
theorem upd_ne {f : nF} {k j : Nat} {x : Int32} (h : j ≠ k) : upd f k x j = f j := if_neg h
theorem upd_eq {f : nF} {k : Nat} {x : Int32} : upd f k x k = x := if_pos rfl
/-- nothing but n places from a on -/
def Frk (a n : Nat) (σ σ' : ab_H) : Prop := ∀ v, (v < a ∨ a + n ≤ v) → σ' v = σ v
/-- the one ends ahead of the other -/
def ap8 (x y : Nat) : Prop := x + 8 ≤ y
def Fr2 (x n y m : Nat) (σ σ' : ab_H) : Prop := ∀ v, (v < x ∨ x + n ≤ v) → (v < y ∨ y + m ≤ v) → σ' v = σ v
def wr4 (σ : ab_H) (a i : Nat) (p q r t : Int32) : ab_H := ab_up (ab_up (ab_up (ab_up σ (a + 1) i p) (a + 2) i q) (a + 3) i r) (a + 4) i t
def wr3 (σ : ab_H) (a i : Nat) (p q r : Int32) : ab_H := ab_up (ab_up (ab_up σ (a + 1) i p) (a + 2) i q) (a + 3) i r
theorem RS.of {σ σ' : ab_H} {a : Nat} {f : nF} (h : RS σ a f) (e : ∀ v, a ≤ v → v < a + 8 → σ' v = σ v) : RS σ' a f := by
  unfold RS at h ⊢
  rw [e a (by omega) (by omega), e (a + 1) (by omega) (by omega), e (a + 2) (by omega) (by omega), e (a + 3) (by omega) (by omega), e (a + 4) (by omega) (by omega), e (a + 5) (by omega) (by omega), e (a + 6) (by omega) (by omega), e (a + 7) (by omega) (by omega)]
  exact h
theorem RF.of {σ σ' : ab_H} {a : Nat} {f : nF} (h : RF σ a f) (e : ∀ v, a ≤ v → v < a + 5 → σ' v = σ v) : RF σ' a f := by
  unfold RF at h ⊢
  rw [e a (by omega) (by omega), e (a + 1) (by omega) (by omega), e (a + 2) (by omega) (by omega), e (a + 3) (by omega) (by omega), e (a + 4) (by omega) (by omega)]
  exact h
theorem RO.of {σ σ' : ab_H} {a : Nat} {l : List nO} (h : RO σ a l) (e : ∀ v, a ≤ v → v < a + 5 → σ' v = σ v) : RO σ' a l := by
  unfold RO at h ⊢
  rw [e a (by omega) (by omega), e (a + 1) (by omega) (by omega), e (a + 2) (by omega) (by omega), e (a + 3) (by omega) (by omega), e (a + 4) (by omega) (by omega)]
  exact h
theorem RB.of {σ σ' : ab_H} {a : Nat} {l : List nB} (h : RB σ a l) (e : ∀ v, a ≤ v → v < a + 4 → σ' v = σ v) : RB σ' a l := by
  unfold RB at h ⊢
  rw [e a (by omega) (by omega), e (a + 1) (by omega) (by omega), e (a + 2) (by omega) (by omega), e (a + 3) (by omega) (by omega)]
  exact h
theorem RG.of {σ σ' : ab_H} {a : Nat} {c : Int32} {l : List nB} (h : RG σ a c l) (e : ∀ v, a ≤ v → v < a + 4 → σ' v = σ v) : RG σ' a c l := by
  unfold RG at h ⊢
  rw [e a (by omega) (by omega), e (a + 1) (by omega) (by omega), e (a + 2) (by omega) (by omega), e (a + 3) (by omega) (by omega)]
  exact h
/-- RS sees but some numbers -/
theorem RS.f {σ : ab_H} {a : Nat} {f g : nF} (h : RS σ a f) (e1 : g 1 = f 1) (e : ∀ i, 21 ≤ i → g i = f i) : RS σ a g := by
  unfold RS at h ⊢
  simp only [e1]
  refine ⟨h.1, fun s hs => ?_, h.2.2⟩
  obtain ⟨q1, q2, q3, q4, q5, q6, q7⟩ := h.2.1 s hs
  rw [e _ (by omega), e _ (by omega), e _ (by omega), e _ (by omega), e _ (by omega), e _ (by omega)]
  refine ⟨q1, q2, q3, q4, q5, q6, fun k hk => ?_⟩
  rw [e _ (by omega)]
  exact q7 k hk
/-- a station gets gas and sondes -/
theorem hRst {σ : ab_H} {a : Nat} {f : nF} (h : RS σ a f) {k : Nat} (hk : k < cl (f 1)) : σ (a + 7) (k * 5) = f (25 + 11 * k) := (h.2.1 k hk).2.2.2.2.2.2 0 (by decide)
theorem RS.recv {σ : ab_H} {a : Nat} {f : nF} (h : RS σ a f) {k : Nat} (hk : k < cl (f 1)) (g n : Int32) : RS (ab_up (ab_up σ (a + 4) k (σ (a + 4) k + g)) (a + 7) (k * 5) (σ (a + 7) (k * 5) + n)) a (upd (upd f (24 + 11 * k) (f (24 + 11 * k) + g)) (25 + 11 * k) (f (25 + 11 * k) + n)) := by
  have hst := hRst h hk
  obtain ⟨h0, h1, h2⟩ := h
  have e1 : upd (upd f (24 + 11 * k) (f (24 + 11 * k) + g)) (25 + 11 * k) (f (25 + 11 * k) + n) 1 = f 1 := by simp (disch := omega) only [upd_nep]
  refine ⟨by simp (disch := omega) only [up_ne, upd_nep]; exact h0, fun s hs => ?_, fun s hs h5 => ?_⟩
  · rw [e1] at hs
    obtain ⟨q1, q2, q3, q4, q5, q6, q7⟩ := h1 s hs
    by_cases hsk : s = k
    · subst hsk
      refine ⟨?_, ?_, ?_, ?_, ?_, ?_, fun j hj => ?_⟩
      all_goals try simp (disch := omega) only [up_ne, up_eqp, up_nep, upd_nep, upd_eqp]
      all_goals try assumption
      · rw [q4]
      · by_cases hj0 : j = 0
        · subst hj0
          simp (disch := omega) only [up_eqp, upd_eqp]
          rw [hst]
        · simp (disch := omega) only [up_ne, up_eqp, up_nep, upd_nep, upd_eqp]
          exact q7 j hj
    · refine ⟨?_, ?_, ?_, ?_, ?_, ?_, fun j hj => ?_⟩
      all_goals try simp (disch := omega) only [up_ne, up_eqp, up_nep, upd_nep, upd_eqp]
      all_goals try assumption
      exact q7 j hj
  · rw [e1] at hs
    obtain ⟨q4, q5, q6, q7⟩ := h2 s hs h5
    refine ⟨?_, ?_, ?_, fun j hj => ?_⟩
    all_goals simp (disch := omega) only [up_ne, up_eqp, up_nep, upd_nep, upd_eqp]
    all_goals try assumption
    exact q7 j hj
/-- a station's stock changes -/
theorem RS.stk {σ : ab_H} {a : Nat} {f : nF} (h : RS σ a f) {k m : Nat} (hk : k < cl (f 1)) (hm : m < 5) (n : Int32) : RS (ab_up σ (a + 7) (k * 5 + m) (σ (a + 7) (k * 5 + m) + n)) a (upd f (25 + 11 * k + m) (f (25 + 11 * k + m) + n)) := by
  obtain ⟨h0, h1, h2⟩ := h
  have e1 : upd f (25 + 11 * k + m) (f (25 + 11 * k + m) + n) 1 = f 1 := by simp (disch := omega) only [upd_nep]
  refine ⟨by simp (disch := omega) only [up_ne, upd_nep]; exact h0, fun s hs => ?_, fun s hs h5 => ?_⟩
  · rw [e1] at hs
    have q77 := (h1 k hk).2.2.2.2.2.2 m hm
    obtain ⟨q1, q2, q3, q4, q5, q6, q7⟩ := h1 s hs
    refine ⟨?_, ?_, ?_, ?_, ?_, ?_, fun j hj => ?_⟩
    all_goals try (simp (disch := omega) only [up_ne, up_nep, upd_nep]; assumption)
    by_cases hsk : s = k ∧ j = m
    · obtain ⟨rfl, rfl⟩ := hsk
      simp (disch := omega) only [up_eqp, upd_eqp]
      rw [q77]
    · simp (disch := omega) only [up_nep, upd_nep]
      exact q7 j hj
  · rw [e1] at hs
    obtain ⟨q4, q5, q6, q7⟩ := h2 s hs h5
    refine ⟨?_, ?_, ?_, fun j hj => ?_⟩
    all_goals simp (disch := omega) only [up_ne, up_nep]
    all_goals try assumption
    exact q7 j hj
