/-! a long method's word in the tables: its bytes compared one by one -/
def bEq : List UInt8 → List UInt8 → Bool
  | [], [] => true
  | a :: as, b :: bs => a.toNat == b.toNat && bEq as bs
  | _, _ => false
theorem bEq_eq : ∀ {a b : List UInt8}, bEq a b = true → a = b
  | [], [], _ => rfl
  | [], _ :: _, h => by cases h
  | _ :: _, [], h => by cases h
  | a :: as, b :: bs, h => by
    unfold bEq at h
    rw [Bool.and_eq_true] at h
    rw [bEq_eq h.2, UInt8.toNat_inj.mp (eq_of_beq h.1)]
def cIs (o : Option Cond) (y : MethodName) (b : ByteArray) (n : Nat) (r : Option FieldType) : Bool := match o with
  | some (Cond.code y' b' n' r') => decide (y' = y) && (bEq b'.data.toList b.data.toList && (decide (n' = n) && decide (r' = r)))
  | _ => false
theorem cIs_eq {o : Option Cond} {y : MethodName} {b : ByteArray} {n : Nat} {r : Option FieldType} (h : cIs o y b n r = true) : o = some (Cond.code y b n r) := by
  unfold cIs at h
  split at h
  · rename_i y' b' n' r'
    rw [Bool.and_eq_true, Bool.and_eq_true, Bool.and_eq_true] at h
    obtain ⟨h1, h2, h3, h4⟩ := h
    have e1 := of_decide_eq_true h1
    have e3 := of_decide_eq_true h3
    have e4 := of_decide_eq_true h4
    have e2 := bEq_eq h2
    subst e1 e3 e4
    obtain ⟨⟨x'⟩⟩ := b'
    obtain ⟨⟨x⟩⟩ := b
    cases e2
    rfl
  · cases h
