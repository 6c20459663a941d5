/-! ===== 210: the fixed cells ===== -/
def hT : Nat → Nat → Nat
  | 0, 0 => 1
  | 0, 1 => 6
  | 0, 3 => 7
  | 0, 4 => 10
  | 0, 5 => 14
  | 0, 6 => 16
  | 0, 7 => 18
  | 0, 8 => 27
  | 0, 9 => 31
  | 1, 0 => 2
  | 1, 1 => 3
  | 1, 2 => 4
  | 1, 3 => 5
  | 7, 0 => 8
  | 7, 1 => 9
  | 10, 0 => 11
  | 10, 1 => 12
  | 10, 2 => 13
  | 14, 0 => 15
  | 16, 0 => 17
  | 18, 0 => 19
  | 18, 1 => 20
  | 18, 2 => 21
  | 18, 4 => 22
  | 18, 5 => 23
  | 18, 6 => 24
  | 27, 0 => 28
  | 27, 1 => 29
  | 27, 2 => 30
  | 32, 0 => 33
  | 32, 1 => 34
  | 32, 3 => 35
  | 32, 4 => 36
  | 32, 5 => 37
  | 32, 6 => 38
  | 32, 7 => 39
  | 32, 11 => 40
  | 32, 12 => 41
  | 32, 13 => 42
  | 32, 14 => 43
  | 32, 17 => 44
  | 32, 20 => 45
  | 32, 21 => 46
  | 32, 22 => 47
  | 32, 24 => 48
  | 32, 25 => 49
  | 32, 26 => 50
  | 32, 27 => 51
  | 32, 28 => 52
  | 32, 29 => 53
  | 32, 30 => 54
  | 32, 31 => 55
  | _, _ => 0
/-- the references: as the constructors leave them; n canes; the ring's two rows as they are or swapped -/
def Hst (b n : Nat) (sw : Bool) : mR := fun k j => if k = 6 then (if j < n then some (b + (56 + 3 * j)) else none) else if k = 18 ∧ j = 8 then some (b + if sw then 26 else 25) else if k = 18 ∧ j = 9 then some (b + if sw then 25 else 26) else if k < 56 then (if hT k j = 0 then none else some (b + hT k j)) else if j = 0 ∧ k < 56 + 3 * n ∧ k % 3 ≠ 1 then some (b + (k + 1)) else none
def M (b : Nat) (F : mI) (G : mJ) (n : Nat) (sw : Bool) : pH := mk b F G (Hst b n sw) (56 + 3 * n)
section RD
variable {b : Nat} {F : mI} {G : mJ} {n : Nat} {sw : Bool}
theorem K_0 {ρ : Type} {z : Option ρ} : chk (M b F G n sw) 8 (some b) z = z := m_chk (k := 0) (by omega) rfl
theorem R_0_0 : gfR (M b F G n sw) 8 0 (some b) = some (some (b + 1)) := m_gfR (k := 0) (by omega) rfl rfl
theorem R_0_1 : gfR (M b F G n sw) 8 1 (some b) = some (some (b + 6)) := m_gfR (k := 0) (by omega) rfl rfl
theorem I_0_2 : gfI (M b F G n sw) 8 2 (some b) = some (F 0 2) := m_gfI (k := 0) (by omega) rfl rfl
theorem P_0_2 {v : Int32} : pfV (M b F G n sw) 8 2 (some b) (.int v) = some (M b (u2 F 0 2 v) G n sw) := m_pfI (k := 0) (by omega) rfl rfl
theorem R_0_3 : gfR (M b F G n sw) 8 3 (some b) = some (some (b + 7)) := m_gfR (k := 0) (by omega) rfl rfl
theorem R_0_4 : gfR (M b F G n sw) 8 4 (some b) = some (some (b + 10)) := m_gfR (k := 0) (by omega) rfl rfl
theorem R_0_5 : gfR (M b F G n sw) 8 5 (some b) = some (some (b + 14)) := m_gfR (k := 0) (by omega) rfl rfl
theorem R_0_6 : gfR (M b F G n sw) 8 6 (some b) = some (some (b + 16)) := m_gfR (k := 0) (by omega) rfl rfl
theorem R_0_7 : gfR (M b F G n sw) 8 7 (some b) = some (some (b + 18)) := m_gfR (k := 0) (by omega) rfl rfl
theorem R_0_8 : gfR (M b F G n sw) 8 8 (some b) = some (some (b + 27)) := m_gfR (k := 0) (by omega) rfl rfl
theorem R_0_9 : gfR (M b F G n sw) 8 9 (some b) = some (some (b + 31)) := m_gfR (k := 0) (by omega) rfl rfl
theorem J_0_10 : gfJ (M b F G n sw) 8 10 (some b) = some (G 0 10) := m_gfJ (k := 0) (by omega) rfl rfl
theorem P_0_10 {v : Int64} : pfV (M b F G n sw) 8 10 (some b) (.long v) = some (M b F (u2 G 0 10 v) n sw) := m_pfJ (k := 0) (by omega) rfl rfl
theorem K_1 {ρ : Type} {z : Option ρ} : chk (M b F G n sw) 3 (some (b + 1)) z = z := m_chk (k := 1) (by omega) rfl
theorem R_1_0 : gfR (M b F G n sw) 3 0 (some (b + 1)) = some (some (b + 2)) := m_gfR (k := 1) (by omega) rfl rfl
theorem R_1_1 : gfR (M b F G n sw) 3 1 (some (b + 1)) = some (some (b + 3)) := m_gfR (k := 1) (by omega) rfl rfl
theorem R_1_2 : gfR (M b F G n sw) 3 2 (some (b + 1)) = some (some (b + 4)) := m_gfR (k := 1) (by omega) rfl rfl
theorem R_1_3 : gfR (M b F G n sw) 3 3 (some (b + 1)) = some (some (b + 5)) := m_gfR (k := 1) (by omega) rfl rfl
theorem I_1_4 : gfI (M b F G n sw) 3 4 (some (b + 1)) = some (F 1 4) := m_gfI (k := 1) (by omega) rfl rfl
theorem P_1_4 {v : Int32} : pfV (M b F G n sw) 3 4 (some (b + 1)) (.int v) = some (M b (u2 F 1 4 v) G n sw) := m_pfI (k := 1) (by omega) rfl rfl
theorem L_2 {i : Nat} (h : i < 9) : ldI (M b F G n sw) 0 (some (b + 2)) (nI i) = some (F 2 i) := m_ldI (k := 2) (by omega) rfl h
theorem T_2 {i : Nat} {x : Int32} (h : i < 9) : stI (M b F G n sw) (some (b + 2)) (nI i) x = some (M b (u2 F 2 i x) G n sw) := m_stI (k := 2) (by omega) rfl h
theorem L_3 {i : Nat} (h : i < 9) : ldI (M b F G n sw) 0 (some (b + 3)) (nI i) = some (F 3 i) := m_ldI (k := 3) (by omega) rfl h
theorem T_3 {i : Nat} {x : Int32} (h : i < 9) : stI (M b F G n sw) (some (b + 3)) (nI i) x = some (M b (u2 F 3 i x) G n sw) := m_stI (k := 3) (by omega) rfl h
theorem L_4 {i : Nat} (h : i < 9) : ldJ (M b F G n sw) (some (b + 4)) (nI i) = some (G 4 i) := m_ldJ (k := 4) (by omega) rfl h
theorem T_4 {i : Nat} {x : Int64} (h : i < 9) : stJ (M b F G n sw) (some (b + 4)) (nI i) x = some (M b F (u2 G 4 i x) n sw) := m_stJ (k := 4) (by omega) rfl h
theorem L_5 {i : Nat} (h : i < 9) : ldJ (M b F G n sw) (some (b + 5)) (nI i) = some (G 5 i) := m_ldJ (k := 5) (by omega) rfl h
theorem T_5 {i : Nat} {x : Int64} (h : i < 9) : stJ (M b F G n sw) (some (b + 5)) (nI i) x = some (M b F (u2 G 5 i x) n sw) := m_stJ (k := 5) (by omega) rfl h
theorem K_7 {ρ : Type} {z : Option ρ} : chk (M b F G n sw) 7 (some (b + 7)) z = z := m_chk (k := 7) (by omega) rfl
theorem R_7_0 : gfR (M b F G n sw) 7 0 (some (b + 7)) = some (some (b + 8)) := m_gfR (k := 7) (by omega) rfl rfl
theorem R_7_1 : gfR (M b F G n sw) 7 1 (some (b + 7)) = some (some (b + 9)) := m_gfR (k := 7) (by omega) rfl rfl
theorem I_7_2 : gfI (M b F G n sw) 7 2 (some (b + 7)) = some (F 7 2) := m_gfI (k := 7) (by omega) rfl rfl
theorem P_7_2 {v : Int32} : pfV (M b F G n sw) 7 2 (some (b + 7)) (.int v) = some (M b (u2 F 7 2 v) G n sw) := m_pfI (k := 7) (by omega) rfl rfl
theorem L_8 {i : Nat} (h : i < 16) : ldI (M b F G n sw) 0 (some (b + 8)) (nI i) = some (F 8 i) := m_ldI (k := 8) (by omega) rfl h
theorem T_8 {i : Nat} {x : Int32} (h : i < 16) : stI (M b F G n sw) (some (b + 8)) (nI i) x = some (M b (u2 F 8 i x) G n sw) := m_stI (k := 8) (by omega) rfl h
theorem L_9 {i : Nat} (h : i < 16) : ldI (M b F G n sw) 0 (some (b + 9)) (nI i) = some (F 9 i) := m_ldI (k := 9) (by omega) rfl h
theorem T_9 {i : Nat} {x : Int32} (h : i < 16) : stI (M b F G n sw) (some (b + 9)) (nI i) x = some (M b (u2 F 9 i x) G n sw) := m_stI (k := 9) (by omega) rfl h
theorem K_10 {ρ : Type} {z : Option ρ} : chk (M b F G n sw) 2 (some (b + 10)) z = z := m_chk (k := 10) (by omega) rfl
theorem R_10_0 : gfR (M b F G n sw) 2 0 (some (b + 10)) = some (some (b + 11)) := m_gfR (k := 10) (by omega) rfl rfl
theorem R_10_1 : gfR (M b F G n sw) 2 1 (some (b + 10)) = some (some (b + 12)) := m_gfR (k := 10) (by omega) rfl rfl
theorem R_10_2 : gfR (M b F G n sw) 2 2 (some (b + 10)) = some (some (b + 13)) := m_gfR (k := 10) (by omega) rfl rfl
theorem L_11 {i : Nat} (h : i < 64) : ldI (M b F G n sw) 0 (some (b + 11)) (nI i) = some (F 11 i) := m_ldI (k := 11) (by omega) rfl h
theorem T_11 {i : Nat} {x : Int32} (h : i < 64) : stI (M b F G n sw) (some (b + 11)) (nI i) x = some (M b (u2 F 11 i x) G n sw) := m_stI (k := 11) (by omega) rfl h
theorem L_12 {i : Nat} (h : i < 64) : ldI (M b F G n sw) 0 (some (b + 12)) (nI i) = some (F 12 i) := m_ldI (k := 12) (by omega) rfl h
theorem T_12 {i : Nat} {x : Int32} (h : i < 64) : stI (M b F G n sw) (some (b + 12)) (nI i) x = some (M b (u2 F 12 i x) G n sw) := m_stI (k := 12) (by omega) rfl h
theorem L_13 {i : Nat} (h : i < 64) : ldI (M b F G n sw) 0 (some (b + 13)) (nI i) = some (F 13 i) := m_ldI (k := 13) (by omega) rfl h
theorem T_13 {i : Nat} {x : Int32} (h : i < 64) : stI (M b F G n sw) (some (b + 13)) (nI i) x = some (M b (u2 F 13 i x) G n sw) := m_stI (k := 13) (by omega) rfl h
theorem K_14 {ρ : Type} {z : Option ρ} : chk (M b F G n sw) 5 (some (b + 14)) z = z := m_chk (k := 14) (by omega) rfl
theorem R_14_0 : gfR (M b F G n sw) 5 0 (some (b + 14)) = some (some (b + 15)) := m_gfR (k := 14) (by omega) rfl rfl
theorem I_14_1 : gfI (M b F G n sw) 5 1 (some (b + 14)) = some (F 14 1) := m_gfI (k := 14) (by omega) rfl rfl
theorem P_14_1 {v : Int32} : pfV (M b F G n sw) 5 1 (some (b + 14)) (.int v) = some (M b (u2 F 14 1 v) G n sw) := m_pfI (k := 14) (by omega) rfl rfl
theorem L_15 {i : Nat} (h : i < 64) : ldI (M b F G n sw) 0 (some (b + 15)) (nI i) = some (F 15 i) := m_ldI (k := 15) (by omega) rfl h
theorem T_15 {i : Nat} {x : Int32} (h : i < 64) : stI (M b F G n sw) (some (b + 15)) (nI i) x = some (M b (u2 F 15 i x) G n sw) := m_stI (k := 15) (by omega) rfl h
theorem K_16 {ρ : Type} {z : Option ρ} : chk (M b F G n sw) 5 (some (b + 16)) z = z := m_chk (k := 16) (by omega) rfl
theorem R_16_0 : gfR (M b F G n sw) 5 0 (some (b + 16)) = some (some (b + 17)) := m_gfR (k := 16) (by omega) rfl rfl
theorem I_16_1 : gfI (M b F G n sw) 5 1 (some (b + 16)) = some (F 16 1) := m_gfI (k := 16) (by omega) rfl rfl
theorem P_16_1 {v : Int32} : pfV (M b F G n sw) 5 1 (some (b + 16)) (.int v) = some (M b (u2 F 16 1 v) G n sw) := m_pfI (k := 16) (by omega) rfl rfl
theorem L_17 {i : Nat} (h : i < 64) : ldI (M b F G n sw) 0 (some (b + 17)) (nI i) = some (F 17 i) := m_ldI (k := 17) (by omega) rfl h
theorem T_17 {i : Nat} {x : Int32} (h : i < 64) : stI (M b F G n sw) (some (b + 17)) (nI i) x = some (M b (u2 F 17 i x) G n sw) := m_stI (k := 17) (by omega) rfl h
theorem K_18 {ρ : Type} {z : Option ρ} : chk (M b F G n sw) 0 (some (b + 18)) z = z := m_chk (k := 18) (by omega) rfl
theorem R_18_0 : gfR (M b F G n sw) 0 0 (some (b + 18)) = some (some (b + 19)) := m_gfR (k := 18) (by omega) rfl rfl
theorem R_18_1 : gfR (M b F G n sw) 0 1 (some (b + 18)) = some (some (b + 20)) := m_gfR (k := 18) (by omega) rfl rfl
theorem R_18_2 : gfR (M b F G n sw) 0 2 (some (b + 18)) = some (some (b + 21)) := m_gfR (k := 18) (by omega) rfl rfl
theorem I_18_3 : gfI (M b F G n sw) 0 3 (some (b + 18)) = some (F 18 3) := m_gfI (k := 18) (by omega) rfl rfl
theorem P_18_3 {v : Int32} : pfV (M b F G n sw) 0 3 (some (b + 18)) (.int v) = some (M b (u2 F 18 3 v) G n sw) := m_pfI (k := 18) (by omega) rfl rfl
theorem R_18_4 : gfR (M b F G n sw) 0 4 (some (b + 18)) = some (some (b + 22)) := m_gfR (k := 18) (by omega) rfl rfl
theorem R_18_5 : gfR (M b F G n sw) 0 5 (some (b + 18)) = some (some (b + 23)) := m_gfR (k := 18) (by omega) rfl rfl
theorem R_18_6 : gfR (M b F G n sw) 0 6 (some (b + 18)) = some (some (b + 24)) := m_gfR (k := 18) (by omega) rfl rfl
theorem I_18_7 : gfI (M b F G n sw) 0 7 (some (b + 18)) = some (F 18 7) := m_gfI (k := 18) (by omega) rfl rfl
theorem P_18_7 {v : Int32} : pfV (M b F G n sw) 0 7 (some (b + 18)) (.int v) = some (M b (u2 F 18 7 v) G n sw) := m_pfI (k := 18) (by omega) rfl rfl
theorem R_18_8 : gfR (M b F G n sw) 0 8 (some (b + 18)) = some (some (b + if sw then 26 else 25)) := m_gfR (k := 18) (by omega) rfl rfl
theorem R_18_9 : gfR (M b F G n sw) 0 9 (some (b + 18)) = some (some (b + if sw then 25 else 26)) := m_gfR (k := 18) (by omega) rfl rfl
theorem L_19 {i : Nat} (h : i < 64) : ldI (M b F G n sw) 0 (some (b + 19)) (nI i) = some (F 19 i) := m_ldI (k := 19) (by omega) rfl h
theorem T_19 {i : Nat} {x : Int32} (h : i < 64) : stI (M b F G n sw) (some (b + 19)) (nI i) x = some (M b (u2 F 19 i x) G n sw) := m_stI (k := 19) (by omega) rfl h
theorem L_20 {i : Nat} (h : i < 64) : ldI (M b F G n sw) 0 (some (b + 20)) (nI i) = some (F 20 i) := m_ldI (k := 20) (by omega) rfl h
theorem T_20 {i : Nat} {x : Int32} (h : i < 64) : stI (M b F G n sw) (some (b + 20)) (nI i) x = some (M b (u2 F 20 i x) G n sw) := m_stI (k := 20) (by omega) rfl h
theorem L_21 {i : Nat} (h : i < 64) : ldI (M b F G n sw) 0 (some (b + 21)) (nI i) = some (F 21 i) := m_ldI (k := 21) (by omega) rfl h
theorem T_21 {i : Nat} {x : Int32} (h : i < 64) : stI (M b F G n sw) (some (b + 21)) (nI i) x = some (M b (u2 F 21 i x) G n sw) := m_stI (k := 21) (by omega) rfl h
theorem L_22 {i : Nat} (h : i < 64) : ldI (M b F G n sw) 0 (some (b + 22)) (nI i) = some (F 22 i) := m_ldI (k := 22) (by omega) rfl h
theorem T_22 {i : Nat} {x : Int32} (h : i < 64) : stI (M b F G n sw) (some (b + 22)) (nI i) x = some (M b (u2 F 22 i x) G n sw) := m_stI (k := 22) (by omega) rfl h
theorem L_23 {i : Nat} (h : i < 64) : ldI (M b F G n sw) 0 (some (b + 23)) (nI i) = some (F 23 i) := m_ldI (k := 23) (by omega) rfl h
theorem T_23 {i : Nat} {x : Int32} (h : i < 64) : stI (M b F G n sw) (some (b + 23)) (nI i) x = some (M b (u2 F 23 i x) G n sw) := m_stI (k := 23) (by omega) rfl h
theorem L_24 {i : Nat} (h : i < 64) : ldI (M b F G n sw) 0 (some (b + 24)) (nI i) = some (F 24 i) := m_ldI (k := 24) (by omega) rfl h
theorem T_24 {i : Nat} {x : Int32} (h : i < 64) : stI (M b F G n sw) (some (b + 24)) (nI i) x = some (M b (u2 F 24 i x) G n sw) := m_stI (k := 24) (by omega) rfl h
theorem L_25 {i : Nat} (h : i < 64) : ldI (M b F G n sw) 0 (some (b + 25)) (nI i) = some (F 25 i) := m_ldI (k := 25) (by omega) rfl h
theorem T_25 {i : Nat} {x : Int32} (h : i < 64) : stI (M b F G n sw) (some (b + 25)) (nI i) x = some (M b (u2 F 25 i x) G n sw) := m_stI (k := 25) (by omega) rfl h
theorem L_26 {i : Nat} (h : i < 64) : ldI (M b F G n sw) 0 (some (b + 26)) (nI i) = some (F 26 i) := m_ldI (k := 26) (by omega) rfl h
theorem T_26 {i : Nat} {x : Int32} (h : i < 64) : stI (M b F G n sw) (some (b + 26)) (nI i) x = some (M b (u2 F 26 i x) G n sw) := m_stI (k := 26) (by omega) rfl h
theorem K_27 {ρ : Type} {z : Option ρ} : chk (M b F G n sw) 4 (some (b + 27)) z = z := m_chk (k := 27) (by omega) rfl
theorem R_27_0 : gfR (M b F G n sw) 4 0 (some (b + 27)) = some (some (b + 28)) := m_gfR (k := 27) (by omega) rfl rfl
theorem R_27_1 : gfR (M b F G n sw) 4 1 (some (b + 27)) = some (some (b + 29)) := m_gfR (k := 27) (by omega) rfl rfl
theorem R_27_2 : gfR (M b F G n sw) 4 2 (some (b + 27)) = some (some (b + 30)) := m_gfR (k := 27) (by omega) rfl rfl
theorem I_27_3 : gfI (M b F G n sw) 4 3 (some (b + 27)) = some (F 27 3) := m_gfI (k := 27) (by omega) rfl rfl
theorem P_27_3 {v : Int32} : pfV (M b F G n sw) 4 3 (some (b + 27)) (.int v) = some (M b (u2 F 27 3 v) G n sw) := m_pfI (k := 27) (by omega) rfl rfl
theorem I_27_4 : gfI (M b F G n sw) 4 4 (some (b + 27)) = some (F 27 4) := m_gfI (k := 27) (by omega) rfl rfl
theorem P_27_4 {v : Int32} : pfV (M b F G n sw) 4 4 (some (b + 27)) (.int v) = some (M b (u2 F 27 4 v) G n sw) := m_pfI (k := 27) (by omega) rfl rfl
theorem L_28 {i : Nat} (h : i < 8) : ldI (M b F G n sw) 0 (some (b + 28)) (nI i) = some (F 28 i) := m_ldI (k := 28) (by omega) rfl h
theorem T_28 {i : Nat} {x : Int32} (h : i < 8) : stI (M b F G n sw) (some (b + 28)) (nI i) x = some (M b (u2 F 28 i x) G n sw) := m_stI (k := 28) (by omega) rfl h
theorem L_29 {i : Nat} (h : i < 256) : ldI (M b F G n sw) 0 (some (b + 29)) (nI i) = some (F 29 i) := m_ldI (k := 29) (by omega) rfl h
theorem T_29 {i : Nat} {x : Int32} (h : i < 256) : stI (M b F G n sw) (some (b + 29)) (nI i) x = some (M b (u2 F 29 i x) G n sw) := m_stI (k := 29) (by omega) rfl h
theorem L_30 {i : Nat} (h : i < 256) : ldI (M b F G n sw) 0 (some (b + 30)) (nI i) = some (F 30 i) := m_ldI (k := 30) (by omega) rfl h
theorem T_30 {i : Nat} {x : Int32} (h : i < 256) : stI (M b F G n sw) (some (b + 30)) (nI i) x = some (M b (u2 F 30 i x) G n sw) := m_stI (k := 30) (by omega) rfl h
theorem K_31 {ρ : Type} {z : Option ρ} : chk (M b F G n sw) 6 (some (b + 31)) z = z := m_chk (k := 31) (by omega) rfl
theorem I_31_0 : gfI (M b F G n sw) 6 0 (some (b + 31)) = some (F 31 0) := m_gfI (k := 31) (by omega) rfl rfl
theorem P_31_0 {v : Int32} : pfV (M b F G n sw) 6 0 (some (b + 31)) (.int v) = some (M b (u2 F 31 0 v) G n sw) := m_pfI (k := 31) (by omega) rfl rfl
theorem I_31_1 : gfI (M b F G n sw) 6 1 (some (b + 31)) = some (F 31 1) := m_gfI (k := 31) (by omega) rfl rfl
theorem P_31_1 {v : Int32} : pfV (M b F G n sw) 6 1 (some (b + 31)) (.int v) = some (M b (u2 F 31 1 v) G n sw) := m_pfI (k := 31) (by omega) rfl rfl
theorem I_31_2 : gfI (M b F G n sw) 6 2 (some (b + 31)) = some (F 31 2) := m_gfI (k := 31) (by omega) rfl rfl
theorem P_31_2 {v : Int32} : pfV (M b F G n sw) 6 2 (some (b + 31)) (.int v) = some (M b (u2 F 31 2 v) G n sw) := m_pfI (k := 31) (by omega) rfl rfl
theorem I_31_3 : gfI (M b F G n sw) 6 3 (some (b + 31)) = some (F 31 3) := m_gfI (k := 31) (by omega) rfl rfl
theorem P_31_3 {v : Int32} : pfV (M b F G n sw) 6 3 (some (b + 31)) (.int v) = some (M b (u2 F 31 3 v) G n sw) := m_pfI (k := 31) (by omega) rfl rfl
theorem I_31_4 : gfI (M b F G n sw) 6 4 (some (b + 31)) = some (F 31 4) := m_gfI (k := 31) (by omega) rfl rfl
theorem P_31_4 {v : Int32} : pfV (M b F G n sw) 6 4 (some (b + 31)) (.int v) = some (M b (u2 F 31 4 v) G n sw) := m_pfI (k := 31) (by omega) rfl rfl
theorem I_31_5 : gfI (M b F G n sw) 6 5 (some (b + 31)) = some (F 31 5) := m_gfI (k := 31) (by omega) rfl rfl
theorem P_31_5 {v : Int32} : pfV (M b F G n sw) 6 5 (some (b + 31)) (.int v) = some (M b (u2 F 31 5 v) G n sw) := m_pfI (k := 31) (by omega) rfl rfl
theorem I_31_6 : gfI (M b F G n sw) 6 6 (some (b + 31)) = some (F 31 6) := m_gfI (k := 31) (by omega) rfl rfl
theorem P_31_6 {v : Int32} : pfV (M b F G n sw) 6 6 (some (b + 31)) (.int v) = some (M b (u2 F 31 6 v) G n sw) := m_pfI (k := 31) (by omega) rfl rfl
theorem K_32 {ρ : Type} {z : Option ρ} : chk (M b F G n sw) 9 (some (b + 32)) z = z := m_chk (k := 32) (by omega) rfl
theorem R_32_0 : gfR (M b F G n sw) 9 0 (some (b + 32)) = some (some (b + 33)) := m_gfR (k := 32) (by omega) rfl rfl
theorem R_32_1 : gfR (M b F G n sw) 9 1 (some (b + 32)) = some (some (b + 34)) := m_gfR (k := 32) (by omega) rfl rfl
theorem I_32_2 : gfI (M b F G n sw) 9 2 (some (b + 32)) = some (F 32 2) := m_gfI (k := 32) (by omega) rfl rfl
theorem P_32_2 {v : Int32} : pfV (M b F G n sw) 9 2 (some (b + 32)) (.int v) = some (M b (u2 F 32 2 v) G n sw) := m_pfI (k := 32) (by omega) rfl rfl
theorem R_32_3 : gfR (M b F G n sw) 9 3 (some (b + 32)) = some (some (b + 35)) := m_gfR (k := 32) (by omega) rfl rfl
theorem R_32_4 : gfR (M b F G n sw) 9 4 (some (b + 32)) = some (some (b + 36)) := m_gfR (k := 32) (by omega) rfl rfl
theorem R_32_5 : gfR (M b F G n sw) 9 5 (some (b + 32)) = some (some (b + 37)) := m_gfR (k := 32) (by omega) rfl rfl
theorem R_32_6 : gfR (M b F G n sw) 9 6 (some (b + 32)) = some (some (b + 38)) := m_gfR (k := 32) (by omega) rfl rfl
theorem R_32_7 : gfR (M b F G n sw) 9 7 (some (b + 32)) = some (some (b + 39)) := m_gfR (k := 32) (by omega) rfl rfl
theorem I_32_8 : gfI (M b F G n sw) 9 8 (some (b + 32)) = some (F 32 8) := m_gfI (k := 32) (by omega) rfl rfl
theorem P_32_8 {v : Int32} : pfV (M b F G n sw) 9 8 (some (b + 32)) (.int v) = some (M b (u2 F 32 8 v) G n sw) := m_pfI (k := 32) (by omega) rfl rfl
theorem I_32_9 : gfI (M b F G n sw) 9 9 (some (b + 32)) = some (F 32 9) := m_gfI (k := 32) (by omega) rfl rfl
theorem P_32_9 {v : Int32} : pfV (M b F G n sw) 9 9 (some (b + 32)) (.int v) = some (M b (u2 F 32 9 v) G n sw) := m_pfI (k := 32) (by omega) rfl rfl
theorem I_32_10 : gfI (M b F G n sw) 9 10 (some (b + 32)) = some (F 32 10) := m_gfI (k := 32) (by omega) rfl rfl
theorem P_32_10 {v : Int32} : pfV (M b F G n sw) 9 10 (some (b + 32)) (.int v) = some (M b (u2 F 32 10 v) G n sw) := m_pfI (k := 32) (by omega) rfl rfl
theorem R_32_11 : gfR (M b F G n sw) 9 11 (some (b + 32)) = some (some (b + 40)) := m_gfR (k := 32) (by omega) rfl rfl
theorem R_32_12 : gfR (M b F G n sw) 9 12 (some (b + 32)) = some (some (b + 41)) := m_gfR (k := 32) (by omega) rfl rfl
theorem R_32_13 : gfR (M b F G n sw) 9 13 (some (b + 32)) = some (some (b + 42)) := m_gfR (k := 32) (by omega) rfl rfl
theorem R_32_14 : gfR (M b F G n sw) 9 14 (some (b + 32)) = some (some (b + 43)) := m_gfR (k := 32) (by omega) rfl rfl
theorem I_32_15 : gfI (M b F G n sw) 9 15 (some (b + 32)) = some (F 32 15) := m_gfI (k := 32) (by omega) rfl rfl
theorem P_32_15 {v : Int32} : pfV (M b F G n sw) 9 15 (some (b + 32)) (.int v) = some (M b (u2 F 32 15 v) G n sw) := m_pfI (k := 32) (by omega) rfl rfl
theorem I_32_16 : gfI (M b F G n sw) 9 16 (some (b + 32)) = some (F 32 16) := m_gfI (k := 32) (by omega) rfl rfl
theorem P_32_16 {v : Int32} : pfV (M b F G n sw) 9 16 (some (b + 32)) (.int v) = some (M b (u2 F 32 16 v) G n sw) := m_pfI (k := 32) (by omega) rfl rfl
theorem R_32_17 : gfR (M b F G n sw) 9 17 (some (b + 32)) = some (some (b + 44)) := m_gfR (k := 32) (by omega) rfl rfl
theorem I_32_18 : gfI (M b F G n sw) 9 18 (some (b + 32)) = some (F 32 18) := m_gfI (k := 32) (by omega) rfl rfl
theorem P_32_18 {v : Int32} : pfV (M b F G n sw) 9 18 (some (b + 32)) (.int v) = some (M b (u2 F 32 18 v) G n sw) := m_pfI (k := 32) (by omega) rfl rfl
theorem I_32_19 : gfI (M b F G n sw) 9 19 (some (b + 32)) = some (F 32 19) := m_gfI (k := 32) (by omega) rfl rfl
theorem P_32_19 {v : Int32} : pfV (M b F G n sw) 9 19 (some (b + 32)) (.int v) = some (M b (u2 F 32 19 v) G n sw) := m_pfI (k := 32) (by omega) rfl rfl
theorem R_32_20 : gfR (M b F G n sw) 9 20 (some (b + 32)) = some (some (b + 45)) := m_gfR (k := 32) (by omega) rfl rfl
theorem R_32_21 : gfR (M b F G n sw) 9 21 (some (b + 32)) = some (some (b + 46)) := m_gfR (k := 32) (by omega) rfl rfl
theorem R_32_22 : gfR (M b F G n sw) 9 22 (some (b + 32)) = some (some (b + 47)) := m_gfR (k := 32) (by omega) rfl rfl
theorem J_32_23 : gfJ (M b F G n sw) 9 23 (some (b + 32)) = some (G 32 23) := m_gfJ (k := 32) (by omega) rfl rfl
theorem P_32_23 {v : Int64} : pfV (M b F G n sw) 9 23 (some (b + 32)) (.long v) = some (M b F (u2 G 32 23 v) n sw) := m_pfJ (k := 32) (by omega) rfl rfl
theorem R_32_24 : gfR (M b F G n sw) 9 24 (some (b + 32)) = some (some (b + 48)) := m_gfR (k := 32) (by omega) rfl rfl
theorem R_32_25 : gfR (M b F G n sw) 9 25 (some (b + 32)) = some (some (b + 49)) := m_gfR (k := 32) (by omega) rfl rfl
theorem R_32_26 : gfR (M b F G n sw) 9 26 (some (b + 32)) = some (some (b + 50)) := m_gfR (k := 32) (by omega) rfl rfl
theorem R_32_27 : gfR (M b F G n sw) 9 27 (some (b + 32)) = some (some (b + 51)) := m_gfR (k := 32) (by omega) rfl rfl
theorem R_32_28 : gfR (M b F G n sw) 9 28 (some (b + 32)) = some (some (b + 52)) := m_gfR (k := 32) (by omega) rfl rfl
theorem R_32_29 : gfR (M b F G n sw) 9 29 (some (b + 32)) = some (some (b + 53)) := m_gfR (k := 32) (by omega) rfl rfl
theorem R_32_30 : gfR (M b F G n sw) 9 30 (some (b + 32)) = some (some (b + 54)) := m_gfR (k := 32) (by omega) rfl rfl
theorem R_32_31 : gfR (M b F G n sw) 9 31 (some (b + 32)) = some (some (b + 55)) := m_gfR (k := 32) (by omega) rfl rfl
theorem L_33 {i : Nat} (h : i < 9) : ldI (M b F G n sw) 0 (some (b + 33)) (nI i) = some (F 33 i) := m_ldI (k := 33) (by omega) rfl h
theorem T_33 {i : Nat} {x : Int32} (h : i < 9) : stI (M b F G n sw) (some (b + 33)) (nI i) x = some (M b (u2 F 33 i x) G n sw) := m_stI (k := 33) (by omega) rfl h
theorem L_34 {i : Nat} (h : i < 9) : ldI (M b F G n sw) 0 (some (b + 34)) (nI i) = some (F 34 i) := m_ldI (k := 34) (by omega) rfl h
theorem T_34 {i : Nat} {x : Int32} (h : i < 9) : stI (M b F G n sw) (some (b + 34)) (nI i) x = some (M b (u2 F 34 i x) G n sw) := m_stI (k := 34) (by omega) rfl h
theorem L_35 {i : Nat} (h : i < 16) : ldI (M b F G n sw) 0 (some (b + 35)) (nI i) = some (F 35 i) := m_ldI (k := 35) (by omega) rfl h
theorem T_35 {i : Nat} {x : Int32} (h : i < 16) : stI (M b F G n sw) (some (b + 35)) (nI i) x = some (M b (u2 F 35 i x) G n sw) := m_stI (k := 35) (by omega) rfl h
theorem L_36 {i : Nat} (h : i < 16) : ldI (M b F G n sw) 0 (some (b + 36)) (nI i) = some (F 36 i) := m_ldI (k := 36) (by omega) rfl h
theorem T_36 {i : Nat} {x : Int32} (h : i < 16) : stI (M b F G n sw) (some (b + 36)) (nI i) x = some (M b (u2 F 36 i x) G n sw) := m_stI (k := 36) (by omega) rfl h
theorem L_37 {i : Nat} (h : i < 16) : ldI (M b F G n sw) 0 (some (b + 37)) (nI i) = some (F 37 i) := m_ldI (k := 37) (by omega) rfl h
theorem T_37 {i : Nat} {x : Int32} (h : i < 16) : stI (M b F G n sw) (some (b + 37)) (nI i) x = some (M b (u2 F 37 i x) G n sw) := m_stI (k := 37) (by omega) rfl h
theorem L_38 {i : Nat} (h : i < 16) : ldI (M b F G n sw) 0 (some (b + 38)) (nI i) = some (F 38 i) := m_ldI (k := 38) (by omega) rfl h
theorem T_38 {i : Nat} {x : Int32} (h : i < 16) : stI (M b F G n sw) (some (b + 38)) (nI i) x = some (M b (u2 F 38 i x) G n sw) := m_stI (k := 38) (by omega) rfl h
theorem L_39 {i : Nat} (h : i < 1152) : ldI (M b F G n sw) 0 (some (b + 39)) (nI i) = some (F 39 i) := m_ldI (k := 39) (by omega) rfl h
theorem T_39 {i : Nat} {x : Int32} (h : i < 1152) : stI (M b F G n sw) (some (b + 39)) (nI i) x = some (M b (u2 F 39 i x) G n sw) := m_stI (k := 39) (by omega) rfl h
theorem L_40 {i : Nat} (h : i < 16) : ldI (M b F G n sw) 0 (some (b + 40)) (nI i) = some (F 40 i) := m_ldI (k := 40) (by omega) rfl h
theorem T_40 {i : Nat} {x : Int32} (h : i < 16) : stI (M b F G n sw) (some (b + 40)) (nI i) x = some (M b (u2 F 40 i x) G n sw) := m_stI (k := 40) (by omega) rfl h
theorem L_41 {i : Nat} (h : i < 16) : ldI (M b F G n sw) 0 (some (b + 41)) (nI i) = some (F 41 i) := m_ldI (k := 41) (by omega) rfl h
theorem T_41 {i : Nat} {x : Int32} (h : i < 16) : stI (M b F G n sw) (some (b + 41)) (nI i) x = some (M b (u2 F 41 i x) G n sw) := m_stI (k := 41) (by omega) rfl h
theorem L_42 {i : Nat} (h : i < 9) : ldJ (M b F G n sw) (some (b + 42)) (nI i) = some (G 42 i) := m_ldJ (k := 42) (by omega) rfl h
theorem T_42 {i : Nat} {x : Int64} (h : i < 9) : stJ (M b F G n sw) (some (b + 42)) (nI i) x = some (M b F (u2 G 42 i x) n sw) := m_stJ (k := 42) (by omega) rfl h
theorem L_43 {i : Nat} (h : i < 9) : ldJ (M b F G n sw) (some (b + 43)) (nI i) = some (G 43 i) := m_ldJ (k := 43) (by omega) rfl h
theorem T_43 {i : Nat} {x : Int64} (h : i < 9) : stJ (M b F G n sw) (some (b + 43)) (nI i) x = some (M b F (u2 G 43 i x) n sw) := m_stJ (k := 43) (by omega) rfl h
theorem L_44 {i : Nat} (h : i < 8) : ldI (M b F G n sw) 0 (some (b + 44)) (nI i) = some (F 44 i) := m_ldI (k := 44) (by omega) rfl h
theorem T_44 {i : Nat} {x : Int32} (h : i < 8) : stI (M b F G n sw) (some (b + 44)) (nI i) x = some (M b (u2 F 44 i x) G n sw) := m_stI (k := 44) (by omega) rfl h
theorem L_45 {i : Nat} (h : i < 6) : ldI (M b F G n sw) 0 (some (b + 45)) (nI i) = some (F 45 i) := m_ldI (k := 45) (by omega) rfl h
theorem T_45 {i : Nat} {x : Int32} (h : i < 6) : stI (M b F G n sw) (some (b + 45)) (nI i) x = some (M b (u2 F 45 i x) G n sw) := m_stI (k := 45) (by omega) rfl h
theorem L_46 {i : Nat} (h : i < 6) : ldI (M b F G n sw) 0 (some (b + 46)) (nI i) = some (F 46 i) := m_ldI (k := 46) (by omega) rfl h
theorem T_46 {i : Nat} {x : Int32} (h : i < 6) : stI (M b F G n sw) (some (b + 46)) (nI i) x = some (M b (u2 F 46 i x) G n sw) := m_stI (k := 46) (by omega) rfl h
theorem L_47 {i : Nat} (h : i < 6) : ldI (M b F G n sw) 0 (some (b + 47)) (nI i) = some (F 47 i) := m_ldI (k := 47) (by omega) rfl h
theorem T_47 {i : Nat} {x : Int32} (h : i < 6) : stI (M b F G n sw) (some (b + 47)) (nI i) x = some (M b (u2 F 47 i x) G n sw) := m_stI (k := 47) (by omega) rfl h
theorem L_48 {i : Nat} (h : i < 64) : ldI (M b F G n sw) 0 (some (b + 48)) (nI i) = some (F 48 i) := m_ldI (k := 48) (by omega) rfl h
theorem T_48 {i : Nat} {x : Int32} (h : i < 64) : stI (M b F G n sw) (some (b + 48)) (nI i) x = some (M b (u2 F 48 i x) G n sw) := m_stI (k := 48) (by omega) rfl h
theorem L_49 {i : Nat} (h : i < 64) : ldI (M b F G n sw) 0 (some (b + 49)) (nI i) = some (F 49 i) := m_ldI (k := 49) (by omega) rfl h
theorem T_49 {i : Nat} {x : Int32} (h : i < 64) : stI (M b F G n sw) (some (b + 49)) (nI i) x = some (M b (u2 F 49 i x) G n sw) := m_stI (k := 49) (by omega) rfl h
theorem L_50 {i : Nat} (h : i < 64) : ldI (M b F G n sw) 0 (some (b + 50)) (nI i) = some (F 50 i) := m_ldI (k := 50) (by omega) rfl h
theorem T_50 {i : Nat} {x : Int32} (h : i < 64) : stI (M b F G n sw) (some (b + 50)) (nI i) x = some (M b (u2 F 50 i x) G n sw) := m_stI (k := 50) (by omega) rfl h
theorem L_51 {i : Nat} (h : i < 4096) : ldI (M b F G n sw) 1 (some (b + 51)) (nI i) = some (F 51 i) := m_ldZ (k := 51) (by omega) rfl h
theorem T_51 {i : Nat} {x : Int32} (h : i < 4096) : stZ (M b F G n sw) (some (b + 51)) (nI i) x = some (M b (u2 F 51 i (x &&& 1)) G n sw) := m_stZ (k := 51) (by omega) rfl h
theorem L_52 {i : Nat} (h : i < 64) : ldJ (M b F G n sw) (some (b + 52)) (nI i) = some (G 52 i) := m_ldJ (k := 52) (by omega) rfl h
theorem T_52 {i : Nat} {x : Int64} (h : i < 64) : stJ (M b F G n sw) (some (b + 52)) (nI i) x = some (M b F (u2 G 52 i x) n sw) := m_stJ (k := 52) (by omega) rfl h
theorem L_53 {i : Nat} (h : i < 64) : ldJ (M b F G n sw) (some (b + 53)) (nI i) = some (G 53 i) := m_ldJ (k := 53) (by omega) rfl h
theorem T_53 {i : Nat} {x : Int64} (h : i < 64) : stJ (M b F G n sw) (some (b + 53)) (nI i) x = some (M b F (u2 G 53 i x) n sw) := m_stJ (k := 53) (by omega) rfl h
theorem L_54 {i : Nat} (h : i < 256) : ldI (M b F G n sw) 0 (some (b + 54)) (nI i) = some (F 54 i) := m_ldI (k := 54) (by omega) rfl h
theorem T_54 {i : Nat} {x : Int32} (h : i < 256) : stI (M b F G n sw) (some (b + 54)) (nI i) x = some (M b (u2 F 54 i x) G n sw) := m_stI (k := 54) (by omega) rfl h
theorem L_55 {i : Nat} (h : i < 18) : ldI (M b F G n sw) 1 (some (b + 55)) (nI i) = some (F 55 i) := m_ldZ (k := 55) (by omega) rfl h
theorem T_55 {i : Nat} {x : Int32} (h : i < 18) : stZ (M b F G n sw) (some (b + 55)) (nI i) x = some (M b (u2 F 55 i (x &&& 1)) G n sw) := m_stZ (k := 55) (by omega) rfl h
theorem L_6 {i : Nat} (h : i < 16) : ldR (M b F G n sw) (some (b + 6)) (nI i) = some (if i < n then some (b + (56 + 3 * i)) else none) := m_ldR (k := 6) (by omega) rfl h
theorem Kc0 {ρ : Type} {z : Option ρ} {i : Nat} (h : i < n) : chk (M b F G n sw) 1 (some (b + (56 + 3 * i))) z = z := m_chk (by omega) (kdC0 i)
theorem Kc1 {ρ : Type} {z : Option ρ} {i : Nat} (h : i < n) : chk (M b F G n sw) 5 (some (b + (57 + 3 * i))) z = z := m_chk (by omega) (kdC1 i)
theorem Ic_1 {i : Nat} (h : i < n) : gfI (M b F G n sw) 1 1 (some (b + (56 + 3 * i))) = some (F (56 + 3 * i) 1) := m_gfI (by omega) (kdC0 i) rfl
theorem Ic_2 {i : Nat} (h : i < n) : gfI (M b F G n sw) 1 2 (some (b + (56 + 3 * i))) = some (F (56 + 3 * i) 2) := m_gfI (by omega) (kdC0 i) rfl
theorem Ic_3 {i : Nat} (h : i < n) : gfI (M b F G n sw) 1 3 (some (b + (56 + 3 * i))) = some (F (56 + 3 * i) 3) := m_gfI (by omega) (kdC0 i) rfl
theorem Pc_1 {i : Nat} {v : Int32} (h : i < n) : pfV (M b F G n sw) 1 1 (some (b + (56 + 3 * i))) (.int v) = some (M b (u2 F (56 + 3 * i) 1 v) G n sw) := m_pfI (by omega) (kdC0 i) rfl
theorem Pc_2 {i : Nat} {v : Int32} (h : i < n) : pfV (M b F G n sw) 1 2 (some (b + (56 + 3 * i))) (.int v) = some (M b (u2 F (56 + 3 * i) 2 v) G n sw) := m_pfI (by omega) (kdC0 i) rfl
theorem Pc_3 {i : Nat} {v : Int32} (h : i < n) : pfV (M b F G n sw) 1 3 (some (b + (56 + 3 * i))) (.int v) = some (M b (u2 F (56 + 3 * i) 3 v) G n sw) := m_pfI (by omega) (kdC0 i) rfl
theorem Rc_0 {i : Nat} (h : i < n) : gfR (M b F G n sw) 1 0 (some (b + (56 + 3 * i))) = some (some (b + (57 + 3 * i))) := by
  have h1 := m_gfR (b := b) (F := F) (G := G) (H := Hst b n sw) (c := 56 + 3 * n) (k := 56 + 3 * i) (ci := 1) (j := 0) (by omega) (kdC0 i) rfl
  refine h1.trans (congrArg some ?_)
  simp only [Hst]
  rw [if_neg (show ¬ 56 + 3 * i = 6 by omega), if_neg (show ¬ (56 + 3 * i = 18 ∧ 0 = 8) by omega), if_neg (show ¬ (56 + 3 * i = 18 ∧ 0 = 9) by omega), if_neg (show ¬ 56 + 3 * i < 56 by omega), if_pos (show True ∧ 56 + 3 * i < 56 + 3 * n ∧ (56 + 3 * i) % 3 ≠ 1 from ⟨trivial, by omega, by omega⟩), show 56 + 3 * i + 1 = 57 + 3 * i by omega]
theorem Rp_0 {i : Nat} (h : i < n) : gfR (M b F G n sw) 5 0 (some (b + (57 + 3 * i))) = some (some (b + (58 + 3 * i))) := by
  have h1 := m_gfR (b := b) (F := F) (G := G) (H := Hst b n sw) (c := 56 + 3 * n) (k := 57 + 3 * i) (ci := 5) (j := 0) (by omega) (kdC1 i) rfl
  refine h1.trans (congrArg some ?_)
  simp only [Hst]
  rw [if_neg (show ¬ 57 + 3 * i = 6 by omega), if_neg (show ¬ (57 + 3 * i = 18 ∧ 0 = 8) by omega), if_neg (show ¬ (57 + 3 * i = 18 ∧ 0 = 9) by omega), if_neg (show ¬ 57 + 3 * i < 56 by omega), if_pos (show True ∧ 57 + 3 * i < 56 + 3 * n ∧ (57 + 3 * i) % 3 ≠ 1 from ⟨trivial, by omega, by omega⟩), show 57 + 3 * i + 1 = 58 + 3 * i by omega]
theorem Ip_1 {i : Nat} (h : i < n) : gfI (M b F G n sw) 5 1 (some (b + (57 + 3 * i))) = some (F (57 + 3 * i) 1) := m_gfI (by omega) (kdC1 i) rfl
theorem Pp_1 {i : Nat} {v : Int32} (h : i < n) : pfV (M b F G n sw) 5 1 (some (b + (57 + 3 * i))) (.int v) = some (M b (u2 F (57 + 3 * i) 1 v) G n sw) := m_pfI (by omega) (kdC1 i) rfl
theorem Lp {i j : Nat} (h : i < n) (hj : j < 64) : ldI (M b F G n sw) 0 (some (b + (58 + 3 * i))) (nI j) = some (F (58 + 3 * i) j) := m_ldI (by omega) (kdC2 i) hj
theorem Tp {i j : Nat} {x : Int32} (h : i < n) (hj : j < 64) : stI (M b F G n sw) (some (b + (58 + 3 * i))) (nI j) x = some (M b (u2 F (58 + 3 * i) j x) G n sw) := m_stI (by omega) (kdC2 i) hj
end RD
theorem rng {x lo hi : Int32} (a c : Nat) (hlo : lo = nI a) (hhi : hi = nI c) (ha : a < 2 ^ 31) (hc : c < 2 ^ 31) (h : lo ≤ x ∧ x ≤ hi) : ∃ k, a ≤ k ∧ k ≤ c ∧ x = nI k := by
  subst hlo; subst hhi
  have h1 := Int32.le_iff_toInt_le.mp h.1
  have h2 := Int32.le_iff_toInt_le.mp h.2
  rw [nI_toInt ha] at h1
  rw [nI_toInt hc] at h2
  have h3 : ¬ x < 0 := by
    intro q
    have := Int32.lt_iff_toInt_lt.mp q
    have h0 : (0 : Int32).toInt = 0 := rfl
    omega
  obtain ⟨j, hj, rfl⟩ := nI_of h3
  rw [nI_toInt hj] at h1 h2
  exact ⟨j, by omega, by omega, rfl⟩
theorem rngT {a c k : Nat} (hk : k < 2 ^ 31) (hc : c < 2 ^ 31) (h1 : a ≤ k) (h2 : k ≤ c) : nI a ≤ nI k ∧ nI k ≤ nI c := ⟨nI_le h1 (by omega), nI_le h2 hc⟩
