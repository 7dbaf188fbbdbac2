/-! THE WHOLE STATE AS A VALUE: the net, the remembered ones (the oldest first), the two slots, the text and its length -/
abbrev aS : Type := nT × List nT × Option nT × Option nT × (Nat → Nat) × Nat
def rSl (σ : ab_H) (a : Nat) (o : Option nT) : Prop := match o with
  | none => σ a 1 = 0
  | some n => σ a 1 = 1 ∧ RC σ (a + 1) n
def wA (w : ab_W) : Prop := ab_kd w 0 = 9 ∧ wX w ∧ wM w ∧ wN w 40 ∧ wN w 80 ∧ wN w 120 ∧ ab_kd w 719 = 6 ∧ wN w 720 ∧ ab_kd w 759 = 6 ∧ wN w 760
def RA (w : ab_W) (σ : ab_H) (A : aS) : Prop := CT w σ ∧ RC σ 40 A.1 ∧ RC σ 80 n_new ∧ RH σ A.2.1 ∧ rSl σ 719 A.2.2.1 ∧ rSl σ 759 A.2.2.2.1 ∧ tR σ A.2.2.2.2.1 A.2.2.2.2.2
/-- every net of it is well formed, at most at watch T -/
def WA (T : Nat) (A : aS) : Prop := WF T A.1 ∧ (∀ n ∈ A.2.1, WF T n) ∧ (∀ n, A.2.2.1 = some n → WF T n) ∧ (∀ n, A.2.2.2.1 = some n → WF T n)
/-- the class's calls leave the reference's cells, and the reference's calls those of the class -/
def FrA (σ σ' : ab_H) : Prop := ∀ v, 8 ≤ v → v < 40 → σ' v = σ v
def FrB (σ σ' : ab_H) : Prop := ∀ v, (v < 8 ∨ 16 ≤ v) → σ' v = σ v
