theorem q_ci {P : ab_P} {L st : List Value} {σ : ab_H} {x : Int32} : ab_ci x P L st σ = P L (.int x :: st) σ := rfl
theorem q_cl {P : ab_P} {L st : List Value} {σ : ab_H} {x : Int64} : ab_cl x P L st σ = P L (.long x :: st) σ := rfl
theorem q_ild {P : ab_P} {L st : List Value} {σ : ab_H} {i : Nat} : ab_ild i P L st σ = (match ab_gl L i with
  | .int x => P L (.int x :: st) σ
  | _ => False) := rfl
theorem q_lld {P : ab_P} {L st : List Value} {σ : ab_H} {i : Nat} : ab_lld i P L st σ = (match ab_gl L i with
  | .long x => P L (.long x :: st) σ
  | _ => False) := rfl
theorem q_ald {P : ab_P} {L st : List Value} {σ : ab_H} {i : Nat} : ab_ald i P L st σ = (match ab_gl L i with
  | .ref x => P L (.ref x :: st) σ
  | _ => False) := rfl
theorem q_ist {P : ab_P} {L st : List Value} {σ : ab_H} {i : Nat} {x : Int32} : ab_ist i P L (.int x :: st) σ = (ab_k1 L i = true ∧ P (ab_sl L i (.int x)) st σ) := by
  unfold ab_ist
  cases h : ab_k1 L i <;> simp [h]
theorem q_ast {P : ab_P} {L st : List Value} {σ : ab_H} {i : Nat} {x : Nat} : ab_ast i P L (.ref x :: st) σ = (ab_k1 L i = true ∧ P (ab_sl L i (.ref x)) st σ) := by
  unfold ab_ast
  cases h : ab_k1 L i <;> simp [h]
theorem q_lst {P : ab_P} {L st : List Value} {σ : ab_H} {i : Nat} {x : Int64} : ab_lst i P L (.long x :: st) σ = (ab_k1 L i = true ∧ P (ab_sl (ab_sl L (i + 1) .null) i (.long x)) st σ) := by
  unfold ab_lst
  cases h : ab_k1 L i <;> simp [h]
theorem q_inc {P : ab_P} {L st : List Value} {σ : ab_H} {i : Nat} {c : Int32} : ab_inc i c P L st σ = (match ab_gl L i, ab_k1 L i with
  | .int x, true => P (ab_sl L i (.int (x + c))) st σ
  | _, _ => False) := rfl
theorem q_b2 {P : ab_P} {L st : List Value} {σ : ab_H} {f : Int32 → Int32 → Int32} {x y : Int32} : ab_b2 f P L (.int y :: .int x :: st) σ = P L (.int (f x y) :: st) σ := rfl
theorem q_d2 {P : ab_P} {L st : List Value} {σ : ab_H} {f : Int32 → Int32 → Int32} {x y : Int32} : ab_d2 f P L (.int y :: .int x :: st) σ = (¬ y = 0 ∧ P L (.int (f x y) :: st) σ) := rfl
theorem q_u1 {P : ab_P} {L st : List Value} {σ : ab_H} {f : Int32 → Int32} {x : Int32} : ab_u1 f P L (.int x :: st) σ = P L (.int (f x) :: st) σ := rfl
theorem q_l2 {P : ab_P} {L st : List Value} {σ : ab_H} {f : Int64 → Int64 → Int64} {x y : Int64} : ab_l2 f P L (.long y :: .long x :: st) σ = P L (.long (f x y) :: st) σ := rfl
theorem q_ld2 {P : ab_P} {L st : List Value} {σ : ab_H} {f : Int64 → Int64 → Int64} {x y : Int64} : ab_ld2 f P L (.long y :: .long x :: st) σ = (¬ y = 0 ∧ P L (.long (f x y) :: st) σ) := rfl
theorem q_lsh {P : ab_P} {L st : List Value} {σ : ab_H} {f : Int64 → Int32 → Int64} {x : Int64} {y : Int32} : ab_lsh f P L (.int y :: .long x :: st) σ = P L (.long (f x y) :: st) σ := rfl
theorem q_lcmp {P : ab_P} {L st : List Value} {σ : ab_H} {x y : Int64} : ab_lcmp P L (.long y :: .long x :: st) σ = P L (.int (lg_cmp x y) :: st) σ := rfl
theorem q_i2l {P : ab_P} {L st : List Value} {σ : ab_H} {x : Int32} : ab_i2l P L (.int x :: st) σ = P L (.long x.toInt64 :: st) σ := rfl
theorem q_l2i {P : ab_P} {L st : List Value} {σ : ab_H} {x : Int64} : ab_l2i P L (.long x :: st) σ = P L (.int x.toInt32 :: st) σ := rfl
theorem q_dupi {P : ab_P} {L st : List Value} {σ : ab_H} {x : Int32} : ab_dup P L (.int x :: st) σ = P L (.int x :: .int x :: st) σ := rfl
theorem q_dupr {P : ab_P} {L st : List Value} {σ : ab_H} {x : Nat} : ab_dup P L (.ref x :: st) σ = P L (.ref x :: .ref x :: st) σ := rfl
theorem q_dup2 {P : ab_P} {L st : List Value} {σ : ab_H} {x : Int32} {a : Nat} : ab_dup2 P L (.int x :: .ref a :: st) σ = P L (.int x :: .ref a :: .int x :: .ref a :: st) σ := rfl
theorem q_popi {P : ab_P} {L st : List Value} {σ : ab_H} {x : Int32} : ab_pop P L (.int x :: st) σ = P L st σ := rfl
theorem q_popr {P : ab_P} {L st : List Value} {σ : ab_H} {x : Nat} : ab_pop P L (.ref x :: st) σ = P L st σ := rfl
theorem q_if1 {P P2 : ab_P} {L st : List Value} {σ : ab_H} {c : Int32 → Prop} {x : Int32} : ab_if1 c P P2 L (.int x :: st) σ = ((c x → P L st σ) ∧ (¬ c x → P2 L st σ)) := rfl
theorem q_if2 {P P2 : ab_P} {L st : List Value} {σ : ab_H} {c : Int32 → Int32 → Prop} {x y : Int32} : ab_if2 c P P2 L (.int y :: .int x :: st) σ = ((c x y → P L st σ) ∧ (¬ c x y → P2 L st σ)) := rfl
theorem q_nn {P : ab_P} {L st : List Value} {σ : ab_H} {x : Nat} : ab_nn P L (.ref x :: st) σ = P L st σ := rfl
theorem q_sw {D : ab_P} {L st : List Value} {σ : ab_H} {cs : List (Int32 × ab_P)} {x : Int32} : ab_sw cs D L (.int x :: st) σ = ab_swl cs D x L st σ := rfl
theorem q_swn {D : ab_P} {L st : List Value} {σ : ab_H} {x : Int32} : ab_swl [] D x L st σ = D L st σ := rfl
theorem q_swc {P D : ab_P} {L st : List Value} {σ : ab_H} {cs : List (Int32 × ab_P)} {x k : Int32} : ab_swl ((k, P) :: cs) D x L st σ = ((x = k → P L st σ) ∧ (¬ x = k → ab_swl cs D x L st σ)) := rfl
theorem q_gf {w : ab_W} {P : ab_P} {L st : List Value} {σ : ab_H} {ci k a : Nat} : ab_gf w ci k P L (.ref a :: st) σ = (ab_kd w a = ci ∧ P L (.int (σ a k) :: st) σ) := rfl
theorem q_gr {w : ab_W} {P : ab_P} {L st : List Value} {σ : ab_H} {ci k a : Nat} : ab_gr w ci k P L (.ref a :: st) σ = (ab_kd w a = ci ∧ P L (.ref (a + k) :: st) σ) := rfl
theorem q_pf {w : ab_W} {P : ab_P} {L st : List Value} {σ : ab_H} {ci k a : Nat} {x : Int32} : ab_pf w ci k P L (.int x :: .ref a :: st) σ = (ab_kd w a = ci ∧ P L st (ab_up σ a k x)) := rfl
theorem q_pz {w : ab_W} {P : ab_P} {L st : List Value} {σ : ab_H} {ci k a : Nat} {x : Int32} : ab_pz w ci k P L (.int x :: .ref a :: st) σ = (ab_kd w a = ci ∧ (x = 0 ∨ x = 1) ∧ P L st (ab_up σ a k x)) := rfl
theorem q_pc {w : ab_W} {P : ab_P} {L st : List Value} {σ : ab_H} {ci k a : Nat} {x : Int32} : ab_pc w ci k P L (.int x :: .ref a :: st) σ = (ab_kd w a = ci ∧ (∃ n, n < 65536 ∧ x = nI n) ∧ P L st (ab_up σ a k x)) := rfl
theorem q_ia {w : ab_W} {P : ab_P} {L st : List Value} {σ : ab_H} {k a : Nat} {i : Int32} : ab_ia w k P L (.int i :: .ref a :: st) σ = (ab_kd w a = k ∧ vp_in i (ab_ln w a) ∧ P L (.int (σ a i.toNatClampNeg) :: st) σ) := rfl
theorem q_is {w : ab_W} {P : ab_P} {L st : List Value} {σ : ab_H} {a : Nat} {i x : Int32} : ab_is w P L (.int x :: .int i :: .ref a :: st) σ = (ab_kd w a = 11 ∧ vp_in i (ab_ln w a) ∧ P L st (ab_up σ a i.toNatClampNeg x)) := rfl
theorem q_cs {w : ab_W} {P : ab_P} {L st : List Value} {σ : ab_H} {a : Nat} {i x : Int32} : ab_cs w P L (.int x :: .int i :: .ref a :: st) σ = (ab_kd w a = 12 ∧ vp_in i (ab_ln w a) ∧ (∃ n, n < 65536 ∧ x = nI n) ∧ P L st (ab_up σ a i.toNatClampNeg x)) := rfl
theorem q_zs {w : ab_W} {P : ab_P} {L st : List Value} {σ : ab_H} {a : Nat} {i x : Int32} : ab_zs w P L (.int x :: .int i :: .ref a :: st) σ = (ab_kd w a = 13 ∧ vp_in i (ab_ln w a) ∧ (x = 0 ∨ x = 1) ∧ P L st (ab_up σ a i.toNatClampNeg x)) := rfl
theorem q_la {w : ab_W} {P : ab_P} {L st : List Value} {σ : ab_H} {a : Nat} {i : Int32} : ab_la w P L (.int i :: .ref a :: st) σ = (ab_kd w a = 15 ∧ vp_in i (ab_ln w a) ∧ P L (.long (σ a i.toNatClampNeg).toInt64 :: st) σ) := rfl
theorem q_lw {w : ab_W} {P : ab_P} {L st : List Value} {σ : ab_H} {a : Nat} {i : Int32} {x : Int64} : ab_lw w P L (.long x :: .int i :: .ref a :: st) σ = (ab_kd w a = 15 ∧ vp_in i (ab_ln w a) ∧ x = x.toInt32.toInt64 ∧ P L st (ab_up σ a i.toNatClampNeg x.toInt32)) := rfl
theorem q_aa {w : ab_W} {P : ab_P} {L st : List Value} {σ : ab_H} {a : Nat} {i : Int32} : ab_aa w P L (.int i :: .ref a :: st) σ = (ab_kd w a = 14 ∧ vp_in i (ab_ln w a) ∧ P L (.ref (160 + 40 * i.toNatClampNeg) :: st) σ) := rfl
theorem q_al {w : ab_W} {P : ab_P} {L st : List Value} {σ : ab_H} {a k : Nat} : ab_al w k P L (.ref a :: st) σ = (ab_kd w a = k ∧ P L (.int (nI (ab_ln w a)) :: st) σ) := rfl
theorem q_gs {w : ab_W} {P : ab_P} {L st : List Value} {σ : ab_H} {v : Nat} : ab_gs w v P L st σ = (ab_kd w v = 20 ∧ P L (.ref v :: st) σ) := rfl
theorem q_acp {w : ab_W} {P : ab_P} {L st : List Value} {σ : ab_H} {a b : Nat} {n dp sp : Int32} : ab_acp w P L (.int n :: .int dp :: .ref b :: .int sp :: .ref a :: st) σ = (ab_sh st = true ∧ ab_kd w a = 11 ∧ ab_kd w b = 11 ∧ sp = 0 ∧ dp = 0 ∧ ¬ n < 0 ∧ n.toNatClampNeg ≤ ab_ln w a ∧ n.toNatClampNeg ≤ ab_ln w b ∧ P L st (ab_cp σ a b n.toNatClampNeg)) := rfl
theorem q_m2 {P : ab_P} {L st : List Value} {σ : ab_H} {f : Int32 → Int32 → Int32} {x y : Int32} : ab_mth2 f P L (.int y :: .int x :: st) σ = (ab_sh st = true ∧ P L (.int (f x y) :: st) σ) := rfl
theorem q_m1 {P : ab_P} {L st : List Value} {σ : ab_H} {f : Int32 → Int32} {x : Int32} : ab_mth1 f P L (.int x :: st) σ = (ab_sh st = true ∧ P L (.int (f x) :: st) σ) := rfl
theorem q_ir {Kn : Option Value → ab_H → Prop} {L : List Value} {σ : ab_H} {v : Int32} : ab_ir Kn L [.int v] σ = Kn (some (.int v)) σ := rfl
theorem q_zr {Kn : Option Value → ab_H → Prop} {L : List Value} {σ : ab_H} {v : Int32} : ab_zr Kn L [.int v] σ = ((v = 0 ∨ v = 1) ∧ Kn (some (.int v)) σ) := rfl
theorem q_lr {Kn : Option Value → ab_H → Prop} {L : List Value} {σ : ab_H} {v : Int64} : ab_lr Kn L [.long v] σ = Kn (some (.long v)) σ := rfl
theorem q_ar {Kn : Option Value → ab_H → Prop} {L : List Value} {σ : ab_H} {v : Nat} : ab_ar Kn L [.ref v] σ = Kn (some (.ref v)) σ := rfl
theorem q_vr {Kn : Option Value → ab_H → Prop} {L : List Value} {σ : ab_H} : ab_vr Kn L [] σ = Kn none σ := rfl
theorem q_cN0 {w : ab_W} {P : ab_P} {L st : List Value} {σ : ab_H} {n ci mc : Nat} {s : ab_S} {x : ab_SX} {Kx : String → ab_H → Prop} {v1 v2 v3 v4 v5 v6 v7 : Value} {a : Nat} : ab_cN w 0 s P L (st) σ = (ab_sh st = true ∧ s w [] σ (fun v σ2 => P L (v.toList ++ st) σ2)) := rfl
theorem q_cSX0 {w : ab_W} {P : ab_P} {L st : List Value} {σ : ab_H} {n ci mc : Nat} {s : ab_S} {x : ab_SX} {Kx : String → ab_H → Prop} {v1 v2 v3 v4 v5 v6 v7 : Value} {a : Nat} : ab_cSX w mc 0 s x Kx P L (st) σ = (ab_sh st = true ∧ (s w [] σ (fun v σ2 => P L (v.toList ++ st) σ2) ∨ (mc = 1 ∧ x w [] σ Kx))) := rfl
theorem q_cV0 {w : ab_W} {P : ab_P} {L st : List Value} {σ : ab_H} {n ci mc : Nat} {s : ab_S} {x : ab_SX} {Kx : String → ab_H → Prop} {v1 v2 v3 v4 v5 v6 v7 : Value} {a : Nat} : ab_cV w 1 ci s P L (.ref a :: st) σ = (ab_sh st = true ∧ ab_kd w a = ci ∧ s w [.ref a] σ (fun v σ2 => P L (v.toList ++ st) σ2)) := rfl
theorem q_cVX0 {w : ab_W} {P : ab_P} {L st : List Value} {σ : ab_H} {n ci mc : Nat} {s : ab_S} {x : ab_SX} {Kx : String → ab_H → Prop} {v1 v2 v3 v4 v5 v6 v7 : Value} {a : Nat} : ab_cVX w mc 1 ci s x Kx P L (.ref a :: st) σ = (ab_sh st = true ∧ ab_kd w a = ci ∧ (s w [.ref a] σ (fun v σ2 => P L (v.toList ++ st) σ2) ∨ (mc = 1 ∧ x w [.ref a] σ Kx))) := rfl
theorem q_cN1 {w : ab_W} {P : ab_P} {L st : List Value} {σ : ab_H} {n ci mc : Nat} {s : ab_S} {x : ab_SX} {Kx : String → ab_H → Prop} {v1 v2 v3 v4 v5 v6 v7 : Value} {a : Nat} : ab_cN w 1 s P L (v1 :: st) σ = (ab_sh st = true ∧ s w [v1] σ (fun v σ2 => P L (v.toList ++ st) σ2)) := rfl
theorem q_cSX1 {w : ab_W} {P : ab_P} {L st : List Value} {σ : ab_H} {n ci mc : Nat} {s : ab_S} {x : ab_SX} {Kx : String → ab_H → Prop} {v1 v2 v3 v4 v5 v6 v7 : Value} {a : Nat} : ab_cSX w mc 1 s x Kx P L (v1 :: st) σ = (ab_sh st = true ∧ (s w [v1] σ (fun v σ2 => P L (v.toList ++ st) σ2) ∨ (mc = 1 ∧ x w [v1] σ Kx))) := rfl
theorem q_cV1 {w : ab_W} {P : ab_P} {L st : List Value} {σ : ab_H} {n ci mc : Nat} {s : ab_S} {x : ab_SX} {Kx : String → ab_H → Prop} {v1 v2 v3 v4 v5 v6 v7 : Value} {a : Nat} : ab_cV w 2 ci s P L (v1 :: .ref a :: st) σ = (ab_sh st = true ∧ ab_kd w a = ci ∧ s w [.ref a, v1] σ (fun v σ2 => P L (v.toList ++ st) σ2)) := rfl
theorem q_cVX1 {w : ab_W} {P : ab_P} {L st : List Value} {σ : ab_H} {n ci mc : Nat} {s : ab_S} {x : ab_SX} {Kx : String → ab_H → Prop} {v1 v2 v3 v4 v5 v6 v7 : Value} {a : Nat} : ab_cVX w mc 2 ci s x Kx P L (v1 :: .ref a :: st) σ = (ab_sh st = true ∧ ab_kd w a = ci ∧ (s w [.ref a, v1] σ (fun v σ2 => P L (v.toList ++ st) σ2) ∨ (mc = 1 ∧ x w [.ref a, v1] σ Kx))) := rfl
theorem q_cN2 {w : ab_W} {P : ab_P} {L st : List Value} {σ : ab_H} {n ci mc : Nat} {s : ab_S} {x : ab_SX} {Kx : String → ab_H → Prop} {v1 v2 v3 v4 v5 v6 v7 : Value} {a : Nat} : ab_cN w 2 s P L (v2 :: v1 :: st) σ = (ab_sh st = true ∧ s w [v1, v2] σ (fun v σ2 => P L (v.toList ++ st) σ2)) := rfl
theorem q_cSX2 {w : ab_W} {P : ab_P} {L st : List Value} {σ : ab_H} {n ci mc : Nat} {s : ab_S} {x : ab_SX} {Kx : String → ab_H → Prop} {v1 v2 v3 v4 v5 v6 v7 : Value} {a : Nat} : ab_cSX w mc 2 s x Kx P L (v2 :: v1 :: st) σ = (ab_sh st = true ∧ (s w [v1, v2] σ (fun v σ2 => P L (v.toList ++ st) σ2) ∨ (mc = 1 ∧ x w [v1, v2] σ Kx))) := rfl
theorem q_cV2 {w : ab_W} {P : ab_P} {L st : List Value} {σ : ab_H} {n ci mc : Nat} {s : ab_S} {x : ab_SX} {Kx : String → ab_H → Prop} {v1 v2 v3 v4 v5 v6 v7 : Value} {a : Nat} : ab_cV w 3 ci s P L (v2 :: v1 :: .ref a :: st) σ = (ab_sh st = true ∧ ab_kd w a = ci ∧ s w [.ref a, v1, v2] σ (fun v σ2 => P L (v.toList ++ st) σ2)) := rfl
theorem q_cVX2 {w : ab_W} {P : ab_P} {L st : List Value} {σ : ab_H} {n ci mc : Nat} {s : ab_S} {x : ab_SX} {Kx : String → ab_H → Prop} {v1 v2 v3 v4 v5 v6 v7 : Value} {a : Nat} : ab_cVX w mc 3 ci s x Kx P L (v2 :: v1 :: .ref a :: st) σ = (ab_sh st = true ∧ ab_kd w a = ci ∧ (s w [.ref a, v1, v2] σ (fun v σ2 => P L (v.toList ++ st) σ2) ∨ (mc = 1 ∧ x w [.ref a, v1, v2] σ Kx))) := rfl
theorem q_cN3 {w : ab_W} {P : ab_P} {L st : List Value} {σ : ab_H} {n ci mc : Nat} {s : ab_S} {x : ab_SX} {Kx : String → ab_H → Prop} {v1 v2 v3 v4 v5 v6 v7 : Value} {a : Nat} : ab_cN w 3 s P L (v3 :: v2 :: v1 :: st) σ = (ab_sh st = true ∧ s w [v1, v2, v3] σ (fun v σ2 => P L (v.toList ++ st) σ2)) := rfl
theorem q_cSX3 {w : ab_W} {P : ab_P} {L st : List Value} {σ : ab_H} {n ci mc : Nat} {s : ab_S} {x : ab_SX} {Kx : String → ab_H → Prop} {v1 v2 v3 v4 v5 v6 v7 : Value} {a : Nat} : ab_cSX w mc 3 s x Kx P L (v3 :: v2 :: v1 :: st) σ = (ab_sh st = true ∧ (s w [v1, v2, v3] σ (fun v σ2 => P L (v.toList ++ st) σ2) ∨ (mc = 1 ∧ x w [v1, v2, v3] σ Kx))) := rfl
theorem q_cV3 {w : ab_W} {P : ab_P} {L st : List Value} {σ : ab_H} {n ci mc : Nat} {s : ab_S} {x : ab_SX} {Kx : String → ab_H → Prop} {v1 v2 v3 v4 v5 v6 v7 : Value} {a : Nat} : ab_cV w 4 ci s P L (v3 :: v2 :: v1 :: .ref a :: st) σ = (ab_sh st = true ∧ ab_kd w a = ci ∧ s w [.ref a, v1, v2, v3] σ (fun v σ2 => P L (v.toList ++ st) σ2)) := rfl
theorem q_cVX3 {w : ab_W} {P : ab_P} {L st : List Value} {σ : ab_H} {n ci mc : Nat} {s : ab_S} {x : ab_SX} {Kx : String → ab_H → Prop} {v1 v2 v3 v4 v5 v6 v7 : Value} {a : Nat} : ab_cVX w mc 4 ci s x Kx P L (v3 :: v2 :: v1 :: .ref a :: st) σ = (ab_sh st = true ∧ ab_kd w a = ci ∧ (s w [.ref a, v1, v2, v3] σ (fun v σ2 => P L (v.toList ++ st) σ2) ∨ (mc = 1 ∧ x w [.ref a, v1, v2, v3] σ Kx))) := rfl
theorem q_cN4 {w : ab_W} {P : ab_P} {L st : List Value} {σ : ab_H} {n ci mc : Nat} {s : ab_S} {x : ab_SX} {Kx : String → ab_H → Prop} {v1 v2 v3 v4 v5 v6 v7 : Value} {a : Nat} : ab_cN w 4 s P L (v4 :: v3 :: v2 :: v1 :: st) σ = (ab_sh st = true ∧ s w [v1, v2, v3, v4] σ (fun v σ2 => P L (v.toList ++ st) σ2)) := rfl
theorem q_cSX4 {w : ab_W} {P : ab_P} {L st : List Value} {σ : ab_H} {n ci mc : Nat} {s : ab_S} {x : ab_SX} {Kx : String → ab_H → Prop} {v1 v2 v3 v4 v5 v6 v7 : Value} {a : Nat} : ab_cSX w mc 4 s x Kx P L (v4 :: v3 :: v2 :: v1 :: st) σ = (ab_sh st = true ∧ (s w [v1, v2, v3, v4] σ (fun v σ2 => P L (v.toList ++ st) σ2) ∨ (mc = 1 ∧ x w [v1, v2, v3, v4] σ Kx))) := rfl
theorem q_cV4 {w : ab_W} {P : ab_P} {L st : List Value} {σ : ab_H} {n ci mc : Nat} {s : ab_S} {x : ab_SX} {Kx : String → ab_H → Prop} {v1 v2 v3 v4 v5 v6 v7 : Value} {a : Nat} : ab_cV w 5 ci s P L (v4 :: v3 :: v2 :: v1 :: .ref a :: st) σ = (ab_sh st = true ∧ ab_kd w a = ci ∧ s w [.ref a, v1, v2, v3, v4] σ (fun v σ2 => P L (v.toList ++ st) σ2)) := rfl
theorem q_cVX4 {w : ab_W} {P : ab_P} {L st : List Value} {σ : ab_H} {n ci mc : Nat} {s : ab_S} {x : ab_SX} {Kx : String → ab_H → Prop} {v1 v2 v3 v4 v5 v6 v7 : Value} {a : Nat} : ab_cVX w mc 5 ci s x Kx P L (v4 :: v3 :: v2 :: v1 :: .ref a :: st) σ = (ab_sh st = true ∧ ab_kd w a = ci ∧ (s w [.ref a, v1, v2, v3, v4] σ (fun v σ2 => P L (v.toList ++ st) σ2) ∨ (mc = 1 ∧ x w [.ref a, v1, v2, v3, v4] σ Kx))) := rfl
theorem q_cN5 {w : ab_W} {P : ab_P} {L st : List Value} {σ : ab_H} {n ci mc : Nat} {s : ab_S} {x : ab_SX} {Kx : String → ab_H → Prop} {v1 v2 v3 v4 v5 v6 v7 : Value} {a : Nat} : ab_cN w 5 s P L (v5 :: v4 :: v3 :: v2 :: v1 :: st) σ = (ab_sh st = true ∧ s w [v1, v2, v3, v4, v5] σ (fun v σ2 => P L (v.toList ++ st) σ2)) := rfl
theorem q_cSX5 {w : ab_W} {P : ab_P} {L st : List Value} {σ : ab_H} {n ci mc : Nat} {s : ab_S} {x : ab_SX} {Kx : String → ab_H → Prop} {v1 v2 v3 v4 v5 v6 v7 : Value} {a : Nat} : ab_cSX w mc 5 s x Kx P L (v5 :: v4 :: v3 :: v2 :: v1 :: st) σ = (ab_sh st = true ∧ (s w [v1, v2, v3, v4, v5] σ (fun v σ2 => P L (v.toList ++ st) σ2) ∨ (mc = 1 ∧ x w [v1, v2, v3, v4, v5] σ Kx))) := rfl
theorem q_cV5 {w : ab_W} {P : ab_P} {L st : List Value} {σ : ab_H} {n ci mc : Nat} {s : ab_S} {x : ab_SX} {Kx : String → ab_H → Prop} {v1 v2 v3 v4 v5 v6 v7 : Value} {a : Nat} : ab_cV w 6 ci s P L (v5 :: v4 :: v3 :: v2 :: v1 :: .ref a :: st) σ = (ab_sh st = true ∧ ab_kd w a = ci ∧ s w [.ref a, v1, v2, v3, v4, v5] σ (fun v σ2 => P L (v.toList ++ st) σ2)) := rfl
theorem q_cVX5 {w : ab_W} {P : ab_P} {L st : List Value} {σ : ab_H} {n ci mc : Nat} {s : ab_S} {x : ab_SX} {Kx : String → ab_H → Prop} {v1 v2 v3 v4 v5 v6 v7 : Value} {a : Nat} : ab_cVX w mc 6 ci s x Kx P L (v5 :: v4 :: v3 :: v2 :: v1 :: .ref a :: st) σ = (ab_sh st = true ∧ ab_kd w a = ci ∧ (s w [.ref a, v1, v2, v3, v4, v5] σ (fun v σ2 => P L (v.toList ++ st) σ2) ∨ (mc = 1 ∧ x w [.ref a, v1, v2, v3, v4, v5] σ Kx))) := rfl
theorem q_cN6 {w : ab_W} {P : ab_P} {L st : List Value} {σ : ab_H} {n ci mc : Nat} {s : ab_S} {x : ab_SX} {Kx : String → ab_H → Prop} {v1 v2 v3 v4 v5 v6 v7 : Value} {a : Nat} : ab_cN w 6 s P L (v6 :: v5 :: v4 :: v3 :: v2 :: v1 :: st) σ = (ab_sh st = true ∧ s w [v1, v2, v3, v4, v5, v6] σ (fun v σ2 => P L (v.toList ++ st) σ2)) := rfl
theorem q_cSX6 {w : ab_W} {P : ab_P} {L st : List Value} {σ : ab_H} {n ci mc : Nat} {s : ab_S} {x : ab_SX} {Kx : String → ab_H → Prop} {v1 v2 v3 v4 v5 v6 v7 : Value} {a : Nat} : ab_cSX w mc 6 s x Kx P L (v6 :: v5 :: v4 :: v3 :: v2 :: v1 :: st) σ = (ab_sh st = true ∧ (s w [v1, v2, v3, v4, v5, v6] σ (fun v σ2 => P L (v.toList ++ st) σ2) ∨ (mc = 1 ∧ x w [v1, v2, v3, v4, v5, v6] σ Kx))) := rfl
theorem q_cV6 {w : ab_W} {P : ab_P} {L st : List Value} {σ : ab_H} {n ci mc : Nat} {s : ab_S} {x : ab_SX} {Kx : String → ab_H → Prop} {v1 v2 v3 v4 v5 v6 v7 : Value} {a : Nat} : ab_cV w 7 ci s P L (v6 :: v5 :: v4 :: v3 :: v2 :: v1 :: .ref a :: st) σ = (ab_sh st = true ∧ ab_kd w a = ci ∧ s w [.ref a, v1, v2, v3, v4, v5, v6] σ (fun v σ2 => P L (v.toList ++ st) σ2)) := rfl
theorem q_cVX6 {w : ab_W} {P : ab_P} {L st : List Value} {σ : ab_H} {n ci mc : Nat} {s : ab_S} {x : ab_SX} {Kx : String → ab_H → Prop} {v1 v2 v3 v4 v5 v6 v7 : Value} {a : Nat} : ab_cVX w mc 7 ci s x Kx P L (v6 :: v5 :: v4 :: v3 :: v2 :: v1 :: .ref a :: st) σ = (ab_sh st = true ∧ ab_kd w a = ci ∧ (s w [.ref a, v1, v2, v3, v4, v5, v6] σ (fun v σ2 => P L (v.toList ++ st) σ2) ∨ (mc = 1 ∧ x w [.ref a, v1, v2, v3, v4, v5, v6] σ Kx))) := rfl
theorem q_th {mc : Nat} {E : String} {Kx : String → ab_H → Prop} {L st : List Value} {σ : ab_H} : ab_th mc E Kx L st σ = (ab_sh st = true ∧ mc = 1 ∧ Kx E σ) := rfl
theorem q_sh0 {v1 v2 v3 v4 : Value} : ab_sh [] = true := rfl
theorem q_sh1 {v1 v2 v3 v4 : Value} : ab_sh [v1] = true := rfl
theorem q_sh2 {v1 v2 v3 v4 : Value} : ab_sh [v1, v2] = true := rfl
theorem q_sh3 {v1 v2 v3 v4 : Value} : ab_sh [v1, v2, v3] = true := rfl
theorem q_sh4 {v1 v2 v3 v4 : Value} : ab_sh [v1, v2, v3, v4] = true := rfl
theorem q_toL0 {st : List Value} : (none : Option Value).toList ++ st = st := rfl
theorem q_toL1 {v : Value} {st : List Value} : (some v).toList ++ st = v :: st := rfl
theorem q_gl0 {a : Value} {L : List Value} : ab_gl (a :: L) 0 = a := rfl
theorem q_gls {a : Value} {L : List Value} {i : Nat} : ab_gl (a :: L) (i + 1) = ab_gl L i := rfl
theorem q_sl0 {a v : Value} {L : List Value} : ab_sl (a :: L) 0 v = v :: L := rfl
theorem q_sls {a v : Value} {L : List Value} {i : Nat} : ab_sl (a :: L) (i + 1) v = a :: ab_sl L i v := rfl
theorem q_k10 {L : List Value} : ab_k1 L 0 = true := rfl
theorem q_k1s {L : List Value} {i : Nat} : ab_k1 L (i + 1) = !(ab_lg (ab_gl L i)) := rfl
theorem q_lgi {x : Int32} : ab_lg (.int x) = false := rfl
theorem q_lgr {x : Nat} : ab_lg (.ref x) = false := rfl
theorem q_lgl {x : Int64} : ab_lg (.long x) = true := rfl
theorem q_lgn  : ab_lg .null = false := rfl
