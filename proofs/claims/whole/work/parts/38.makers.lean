/-! the constructors of the class -/
def mks (l : List Int) : Int → Int := fun b => if b ∈ l then 1 else 0
/-- which fields of an object (entries of the ring) are set once it is whole, newest first -/
def mkl : Nat → List Int
  | 0 => [3, 2, 1, 0]
  | 1 => [4, 3, 2, 1, 0]
  | 2 => [0]
  | 3 => [2, 1, 0]
  | 4 => [0]
  | 5 => [8, 6, 5, 4, 3, 1]
  | 6 => [0]
  | 7 => [5, 4, 3, 2]
  | 3000 => [7, 6, 5, 4, 3, 2, 1, 0]
  | _ => []
theorem mks_nil {r : Int → Int} (h : ∀ i, r i = 0) : r = mks [] := by
  funext b; rw [h]; unfold mks; rw [if_neg List.not_mem_nil]
theorem mks_0 (i : Int) : mks [] i = 0 := by unfold mks; rw [if_neg List.not_mem_nil]
theorem up_mks {σ : Wd} {o : Nat} {l : List Int} {x : Int} (h : σ o = mks l) : up σ o x 1 o = mks (x :: l) := by
  funext b
  unfold up
  by_cases hb : b = x
  · rw [if_pos ⟨rfl, hb⟩, hb]; unfold mks; rw [if_pos List.mem_cons_self]
  · rw [if_neg (fun q => hb q.2), h]
    unfold mks
    by_cases hm : b ∈ l
    · rw [if_pos hm, if_pos (List.mem_cons_of_mem _ hm)]
    · rw [if_neg hm, if_neg (fun q => by exact (List.mem_cons.mp q).elim hb hm)]
theorem zr_up {σ : Wd} {o : Nat} {x y : Int} (h : ∀ a, o < a → ∀ i, σ a i = 0) : ∀ a, o < a → ∀ i, up σ o x y a i = 0 := fun a ha i => by
  rw [up_ne1 _ _ _ _ (by omega)]; exact h a ha i
theorem RN.le {X : KX} {a b a2 b2 : Nat} (h : RN X a b) (h1 : a2 ≤ a) (h2 : b2 ≤ b) : RN X a2 b2 := by
  obtain ⟨p, l, e, R, s, m, args, below, meth, c, G, nL, ck, sk, Q⟩ := X
  exact ⟨Nat.le_trans h1 h.1, Nat.le_trans h2 h.2⟩
/-- an object and its mc parts made: their rows are as they are at the start of a life, the others have stayed -/
def Mde (o n : Nat) (σ σ' : Wd) : Prop := (∀ a, o ≤ a → a < n → σ' a = mks (mkl (kd a))) ∧ ∀ a, ¬ (o ≤ a ∧ a < n) → σ' a = σ a
theorem Mde.up {o n : Nat} {σ σ' : Wd} {x y : Int} (h : (∀ a, a ≠ o → σ' a = σ a)) : ∀ a, a ≠ o → up σ' o x y a = σ a := fun a ha => (up_row _ _ _ ha).trans (h a ha)
theorem Mde.of {o n : Nat} {σ σ' : Wd} {ci : Nat} (hk : kd o = ci) (h0 : σ' o = mks (mkl ci)) (hz : ∀ a, o ≤ a → ∀ i, σ a i = 0) (hr : ∀ a, a ≠ o → σ' a = σ a) (ha : ∀ a, o < a → a < n → mkl (kd a) = []) (hn : o < n) : Mde o n σ σ' := by
  refine ⟨fun a h1 h2 => ?_, fun a h => hr a (fun e => h (by omega))⟩
  by_cases he : a = o
  · rw [he, hk]; exact h0
  · rw [ha a (by omega) h2, hr a he]; exact mks_nil (hz a h1)

def i_L_init : List (Nat × (Instr × Nat)) := [(0, (.aload_n 0, 1)), (1, (.invokespecial 3, 3)), (4, (.aload_n 0, 1)), (5, (.sipush 200, 3)), (8, (.newarray .char, 2)), (10, (.putfield 9, 3)), (13, (.return_, 1))]
theorem k_L_init : i_L_init.all (fun q => decide (decode b_L_init q.1 = .ok q.2)) = true := by decide +kernel
theorem ol_L : Cond.methodLink "ForgoneShop$Letters" 3 Lib.objectInit ∈ gw := gw_in (82 + 29) (by decide +kernel) rfl
theorem ii_L : Cond.instanceMethod y_L_init ∈ gw := gw_in (82 + 27) (by decide +kernel) rfl
theorem fo_L_9 : FLo "ForgoneShop$Letters" 9 2 0 := ⟨T_L, 2, t_L, rfl, in_L, t_L_ok, n_L, by decide, gw_in (82 + 30) (by decide +kernel) rfl, rfl, rfl, rfl⟩
def i_R_init : List (Nat × (Instr × Nat)) := [(0, (.aload_n 0, 1)), (1, (.invokespecial 3, 3)), (4, (.aload_n 0, 1)), (5, (.iconst 4, 1)), (6, (.newarray .int, 2)), (8, (.putfield 9, 3)), (11, (.return_, 1))]
theorem k_R_init : i_R_init.all (fun q => decide (decode b_R_init q.1 = .ok q.2)) = true := by decide +kernel
theorem ol_R : Cond.methodLink "ForgoneShop$Reader" 3 Lib.objectInit ∈ gw := gw_in (82 + 45) (by decide +kernel) rfl
theorem ii_R : Cond.instanceMethod y_R_init ∈ gw := gw_in (82 + 43) (by decide +kernel) rfl
theorem fo_R_9 : FLo "ForgoneShop$Reader" 9 6 0 := ⟨T_R, 2, t_R, rfl, in_R, t_R_ok, n_R, by decide, gw_in (82 + 46) (by decide +kernel) rfl, rfl, rfl, rfl⟩
def i_P_init : List (Nat × (Instr × Nat)) := [(0, (.aload_n 0, 1)), (1, (.invokespecial 3, 3)), (4, (.aload_n 0, 1)), (5, (.iconst 5, 1)), (6, (.newarray .int, 2)), (8, (.putfield 9, 3)), (11, (.aload_n 0, 1)), (12, (.bipush 8, 2)), (14, (.newarray .int, 2)), (16, (.putfield 15, 3)), (19, (.aload_n 0, 1)), (20, (.bipush 8, 2)), (22, (.newarray .int, 2)), (24, (.putfield 18, 3)), (27, (.aload_n 0, 1)), (28, (.bipush 8, 2)), (30, (.newarray .int, 2)), (32, (.putfield 21, 3)), (35, (.aload_n 0, 1)), (36, (.bipush 8, 2)), (38, (.newarray .int, 2)), (40, (.putfield 24, 3)), (43, (.aload_n 0, 1)), (44, (.bipush 12, 2)), (46, (.newarray .int, 2)), (48, (.putfield 27, 3)), (51, (.return_, 1))]
theorem k_P_init : i_P_init.all (fun q => decide (decode b_P_init q.1 = .ok q.2)) = true := by decide +kernel
theorem ol_P : Cond.methodLink "ForgoneShop$Plan" 3 Lib.objectInit ∈ gw := gw_in (82 + 59) (by decide +kernel) rfl
theorem ii_P : Cond.instanceMethod y_P_init ∈ gw := gw_in (82 + 57) (by decide +kernel) rfl
theorem fo_P_9 : FLo "ForgoneShop$Plan" 9 5 1 := ⟨T_P, 11, t_P, rfl, in_P, t_P_ok, n_P, by decide, gw_in (82 + 63) (by decide +kernel) rfl, rfl, rfl, rfl⟩
theorem fo_P_15 : FLo "ForgoneShop$Plan" 15 5 3 := ⟨T_P, 11, t_P, rfl, in_P, t_P_ok, n_P, by decide, gw_in (82 + 69) (by decide +kernel) rfl, rfl, rfl, rfl⟩
theorem fo_P_18 : FLo "ForgoneShop$Plan" 18 5 4 := ⟨T_P, 11, t_P, rfl, in_P, t_P_ok, n_P, by decide, gw_in (82 + 73) (by decide +kernel) rfl, rfl, rfl, rfl⟩
theorem fo_P_21 : FLo "ForgoneShop$Plan" 21 5 5 := ⟨T_P, 11, t_P, rfl, in_P, t_P_ok, n_P, by decide, gw_in (82 + 76) (by decide +kernel) rfl, rfl, rfl, rfl⟩
theorem fo_P_24 : FLo "ForgoneShop$Plan" 24 5 6 := ⟨T_P, 11, t_P, rfl, in_P, t_P_ok, n_P, by decide, gw_in (82 + 78) (by decide +kernel) rfl, rfl, rfl, rfl⟩
theorem fo_P_27 : FLo "ForgoneShop$Plan" 27 5 8 := ⟨T_P, 11, t_P, rfl, in_P, t_P_ok, n_P, by decide, gw_in (82 + 83) (by decide +kernel) rfl, rfl, rfl, rfl⟩
def i_S_init : List (Nat × (Instr × Nat)) := [(0, (.aload_n 0, 1)), (1, (.invokespecial 3, 3)), (4, (.aload_n 0, 1)), (5, (.iconst 5, 1)), (6, (.newarray .int, 2)), (8, (.putfield 9, 3)), (11, (.aload_n 0, 1)), (12, (.iconst 5, 1)), (13, (.newarray .int, 2)), (15, (.putfield 15, 3)), (18, (.aload_n 0, 1)), (19, (.bipush 8, 2)), (21, (.newarray .int, 2)), (23, (.putfield 18, 3)), (26, (.aload_n 0, 1)), (27, (.bipush 8, 2)), (29, (.newarray .int, 2)), (31, (.putfield 21, 3)), (34, (.return_, 1))]
theorem k_S_init : i_S_init.all (fun q => decide (decode b_S_init q.1 = .ok q.2)) = true := by decide +kernel
theorem ol_S : Cond.methodLink "ForgoneShop$Stand" 3 Lib.objectInit ∈ gw := gw_in (82 + 117) (by decide +kernel) rfl
theorem ii_S : Cond.instanceMethod y_S_init ∈ gw := gw_in (82 + 115) (by decide +kernel) rfl
theorem fo_S_9 : FLo "ForgoneShop$Stand" 9 7 2 := ⟨T_S, 6, t_S, rfl, in_S, t_S_ok, n_S, by decide, gw_in (82 + 122) (by decide +kernel) rfl, rfl, rfl, rfl⟩
theorem fo_S_15 : FLo "ForgoneShop$Stand" 15 7 3 := ⟨T_S, 6, t_S, rfl, in_S, t_S_ok, n_S, by decide, gw_in (82 + 124) (by decide +kernel) rfl, rfl, rfl, rfl⟩
theorem fo_S_18 : FLo "ForgoneShop$Stand" 18 7 4 := ⟨T_S, 6, t_S, rfl, in_S, t_S_ok, n_S, by decide, gw_in (82 + 126) (by decide +kernel) rfl, rfl, rfl, rfl⟩
theorem fo_S_21 : FLo "ForgoneShop$Stand" 21 7 5 := ⟨T_S, 6, t_S, rfl, in_S, t_S_ok, n_S, by decide, gw_in (82 + 128) (by decide +kernel) rfl, rfl, rfl, rfl⟩
def i_M_init : List (Nat × (Instr × Nat)) := [(0, (.aload_n 0, 1)), (1, (.invokespecial 1, 3)), (4, (.aload_n 0, 1)), (5, (.bipush 8, 2)), (7, (.anewarray 9, 3)), (10, (.putfield 11, 3)), (13, (.iconst 0, 1)), (14, (.istore_n 1, 1)), (15, (.iload_n 1, 1)), (16, (.aload_n 0, 1)), (17, (.getfield 11, 3)), (20, (.arraylength, 1)), (21, (.if_icmp .ge 22, 3)), (24, (.aload_n 0, 1)), (25, (.getfield 11, 3)), (28, (.iload_n 1, 1)), (29, (.new 9, 3)), (32, (.dup, 1)), (33, (.invokespecial 15, 3)), (36, (.aastore, 1)), (37, (.iinc 1 1, 3)), (40, (.goto (-25), 3)), (43, (.return_, 1))]
theorem k_M_init : i_M_init.all (fun q => decide (decode b_M_init q.1 = .ok q.2)) = true := by decide +kernel
theorem ol_M : Cond.methodLink "ForgoneShop$Memory" 1 Lib.objectInit ∈ gw := gw_in (82 + 149) (by decide +kernel) rfl
theorem ii_M : Cond.instanceMethod y_M_init ∈ gw := gw_in (82 + 147) (by decide +kernel) rfl
theorem fo_M_11 : FLo "ForgoneShop$Memory" 11 4 0 := ⟨T_M, 3, t_M, rfl, in_M, t_M_ok, n_M, by decide, gw_in (82 + 153) (by decide +kernel) rfl, rfl, rfl, rfl⟩
def i_K_init : List (Nat × (Instr × Nat)) := [(0, (.aload_n 0, 1)), (1, (.invokespecial 3, 3)), (4, (.aload_n 0, 1)), (5, (.bipush 6, 2)), (7, (.newarray .int, 2)), (9, (.putfield 9, 3)), (12, (.aload_n 0, 1)), (13, (.bipush 6, 2)), (15, (.newarray .int, 2)), (17, (.putfield 15, 3)), (20, (.aload_n 0, 1)), (21, (.bipush 6, 2)), (23, (.newarray .int, 2)), (25, (.putfield 18, 3)), (28, (.return_, 1))]
theorem k_K_init : i_K_init.all (fun q => decide (decode b_K_init q.1 = .ok q.2)) = true := by decide +kernel
theorem ol_K : Cond.methodLink "ForgoneShop$Looks" 3 Lib.objectInit ∈ gw := gw_in (82 + 169) (by decide +kernel) rfl
theorem ii_K : Cond.instanceMethod y_K_init ∈ gw := gw_in (82 + 167) (by decide +kernel) rfl
theorem fo_K_9 : FLo "ForgoneShop$Looks" 9 3 0 := ⟨T_K, 4, t_K, rfl, in_K, t_K_ok, n_K, by decide, gw_in (82 + 170) (by decide +kernel) rfl, rfl, rfl, rfl⟩
theorem fo_K_15 : FLo "ForgoneShop$Looks" 15 3 1 := ⟨T_K, 4, t_K, rfl, in_K, t_K_ok, n_K, by decide, gw_in (82 + 172) (by decide +kernel) rfl, rfl, rfl, rfl⟩
theorem fo_K_18 : FLo "ForgoneShop$Looks" 18 3 2 := ⟨T_K, 4, t_K, rfl, in_K, t_K_ok, n_K, by decide, gw_in (82 + 174) (by decide +kernel) rfl, rfl, rfl, rfl⟩
def i_C_init : List (Nat × (Instr × Nat)) := [(0, (.aload_n 0, 1)), (1, (.invokespecial 3, 3)), (4, (.aload_n 0, 1)), (5, (.bipush 8, 2)), (7, (.newarray .int, 2)), (9, (.putfield 9, 3)), (12, (.aload_n 0, 1)), (13, (.bipush 8, 2)), (15, (.newarray .int, 2)), (17, (.putfield 15, 3)), (20, (.aload_n 0, 1)), (21, (.sipush 256, 3)), (24, (.newarray .int, 2)), (26, (.putfield 18, 3)), (29, (.aload_n 0, 1)), (30, (.sipush 256, 3)), (33, (.newarray .int, 2)), (35, (.putfield 21, 3)), (38, (.return_, 1))]
theorem k_C_init : i_C_init.all (fun q => decide (decode b_C_init q.1 = .ok q.2)) = true := by decide +kernel
theorem ol_C : Cond.methodLink "ForgoneShop$Choice" 3 Lib.objectInit ∈ gw := gw_in (82 + 192) (by decide +kernel) rfl
theorem ii_C : Cond.instanceMethod y_C_init ∈ gw := gw_in (82 + 190) (by decide +kernel) rfl
theorem fo_C_9 : FLo "ForgoneShop$Choice" 9 0 0 := ⟨T_C, 6, t_C, rfl, in_C, t_C_ok, n_C, by decide, gw_in (82 + 193) (by decide +kernel) rfl, rfl, rfl, rfl⟩
theorem fo_C_15 : FLo "ForgoneShop$Choice" 15 0 1 := ⟨T_C, 6, t_C, rfl, in_C, t_C_ok, n_C, by decide, gw_in (82 + 194) (by decide +kernel) rfl, rfl, rfl, rfl⟩
theorem fo_C_18 : FLo "ForgoneShop$Choice" 18 0 2 := ⟨T_C, 6, t_C, rfl, in_C, t_C_ok, n_C, by decide, gw_in (82 + 195) (by decide +kernel) rfl, rfl, rfl, rfl⟩
theorem fo_C_21 : FLo "ForgoneShop$Choice" 21 0 3 := ⟨T_C, 6, t_C, rfl, in_C, t_C_ok, n_C, by decide, gw_in (82 + 196) (by decide +kernel) rfl, rfl, rfl, rfl⟩
def i_E_init : List (Nat × (Instr × Nat)) := [(0, (.aload_n 0, 1)), (1, (.invokespecial 3, 3)), (4, (.aload_n 0, 1)), (5, (.bipush 8, 2)), (7, (.newarray .int, 2)), (9, (.putfield 9, 3)), (12, (.aload_n 0, 1)), (13, (.iconst 5, 1)), (14, (.newarray .int, 2)), (16, (.putfield 15, 3)), (19, (.aload_n 0, 1)), (20, (.iconst 5, 1)), (21, (.newarray .int, 2)), (23, (.putfield 18, 3)), (26, (.aload_n 0, 1)), (27, (.bipush 108, 2)), (29, (.newarray .int, 2)), (31, (.putfield 21, 3)), (34, (.aload_n 0, 1)), (35, (.bipush 8, 2)), (37, (.newarray .int, 2)), (39, (.putfield 24, 3)), (42, (.return_, 1))]
theorem k_E_init : i_E_init.all (fun q => decide (decode b_E_init q.1 = .ok q.2)) = true := by decide +kernel
theorem ol_E : Cond.methodLink "ForgoneShop$Exchange" 3 Lib.objectInit ∈ gw := gw_in (82 + 219) (by decide +kernel) rfl
theorem ii_E : Cond.instanceMethod y_E_init ∈ gw := gw_in (82 + 217) (by decide +kernel) rfl
theorem fo_E_9 : FLo "ForgoneShop$Exchange" 9 1 0 := ⟨T_E, 8, t_E, rfl, in_E, t_E_ok, n_E, by decide, gw_in (82 + 220) (by decide +kernel) rfl, rfl, rfl, rfl⟩
theorem fo_E_15 : FLo "ForgoneShop$Exchange" 15 1 1 := ⟨T_E, 8, t_E, rfl, in_E, t_E_ok, n_E, by decide, gw_in (82 + 221) (by decide +kernel) rfl, rfl, rfl, rfl⟩
theorem fo_E_18 : FLo "ForgoneShop$Exchange" 18 1 2 := ⟨T_E, 8, t_E, rfl, in_E, t_E_ok, n_E, by decide, gw_in (82 + 222) (by decide +kernel) rfl, rfl, rfl, rfl⟩
theorem fo_E_21 : FLo "ForgoneShop$Exchange" 21 1 3 := ⟨T_E, 8, t_E, rfl, in_E, t_E_ok, n_E, by decide, gw_in (82 + 223) (by decide +kernel) rfl, rfl, rfl, rfl⟩
theorem fo_E_24 : FLo "ForgoneShop$Exchange" 24 1 4 := ⟨T_E, 8, t_E, rfl, in_E, t_E_ok, n_E, by decide, gw_in (82 + 224) (by decide +kernel) rfl, rfl, rfl, rfl⟩
def i_F_init : List (Nat × (Instr × Nat)) := [(0, (.aload_n 0, 1)), (1, (.invokespecial 1, 3)), (4, (.aload_n 0, 1)), (5, (.new 7, 3)), (8, (.dup, 1)), (9, (.invokespecial 9, 3)), (12, (.putfield 10, 3)), (15, (.aload_n 0, 1)), (16, (.new 16, 3)), (19, (.dup, 1)), (20, (.invokespecial 18, 3)), (23, (.putfield 19, 3)), (26, (.aload_n 0, 1)), (27, (.new 23, 3)), (30, (.dup, 1)), (31, (.invokespecial 25, 3)), (34, (.putfield 26, 3)), (37, (.aload_n 0, 1)), (38, (.new 23, 3)), (41, (.dup, 1)), (42, (.invokespecial 25, 3)), (45, (.putfield 30, 3)), (48, (.aload_n 0, 1)), (49, (.new 33, 3)), (52, (.dup, 1)), (53, (.invokespecial 35, 3)), (56, (.putfield 36, 3)), (59, (.aload_n 0, 1)), (60, (.new 33, 3)), (63, (.dup, 1)), (64, (.invokespecial 35, 3)), (67, (.putfield 40, 3)), (70, (.aload_n 0, 1)), (71, (.new 43, 3)), (74, (.dup, 1)), (75, (.invokespecial 45, 3)), (78, (.putfield 46, 3)), (81, (.aload_n 0, 1)), (82, (.new 43, 3)), (85, (.dup, 1)), (86, (.invokespecial 45, 3)), (89, (.putfield 50, 3)), (92, (.aload_n 0, 1)), (93, (.new 53, 3)), (96, (.dup, 1)), (97, (.invokespecial 55, 3)), (100, (.putfield 56, 3)), (103, (.aload_n 0, 1)), (104, (.new 60, 3)), (107, (.dup, 1)), (108, (.invokespecial 62, 3)), (111, (.putfield 63, 3)), (114, (.aload_n 0, 1)), (115, (.new 67, 3)), (118, (.dup, 1)), (119, (.invokespecial 69, 3)), (122, (.putfield 70, 3)), (125, (.iconst 0, 1)), (126, (.istore_n 1, 1)), (127, (.iload_n 1, 1)), (128, (.ldc 74, 2)), (130, (.invokevirtual 76, 3)), (133, (.if_icmp .ge 23, 3)), (136, (.aload_n 0, 1)), (137, (.getfield 10, 3)), (140, (.ldc 74, 2)), (142, (.iload_n 1, 1)), (143, (.invokevirtual 82, 3)), (146, (.invokevirtual 86, 3)), (149, (.pop, 1)), (150, (.iinc 1 1, 3)), (153, (.goto (-26), 3)), (156, (.aload_n 0, 1)), (157, (.invokevirtual 90, 3)), (160, (.pop, 1)), (161, (.aload_n 0, 1)), (162, (.getfield 10, 3)), (165, (.iconst 0, 1)), (166, (.putfield 94, 3)), (169, (.return_, 1))]
theorem k_F_init : i_F_init.all (fun q => decide (decode b_F_init q.1 = .ok q.2)) = true := by decide +kernel
theorem ol_F : Cond.methodLink "ForgoneShop" 1 Lib.objectInit ∈ gw := gw_in (82 + 21) (by decide +kernel) rfl
theorem ii_F : Cond.instanceMethod y_F_init ∈ gw := gw_in (82 + 19) (by decide +kernel) rfl
theorem fo_F_10 : FLo "ForgoneShop" 10 8 0 := ⟨T_F, 11, t_F, rfl, in_F, t_F_ok, n_F, by decide, gw_in (82 + 365) (by decide +kernel) rfl, rfl, rfl, rfl⟩
theorem fo_F_19 : FLo "ForgoneShop" 19 8 1 := ⟨T_F, 11, t_F, rfl, in_F, t_F_ok, n_F, by decide, gw_in (82 + 366) (by decide +kernel) rfl, rfl, rfl, rfl⟩
theorem fo_F_36 : FLo "ForgoneShop" 36 8 4 := ⟨T_F, 11, t_F, rfl, in_F, t_F_ok, n_F, by decide, gw_in (82 + 369) (by decide +kernel) rfl, rfl, rfl, rfl⟩
theorem fo_F_40 : FLo "ForgoneShop" 40 8 5 := ⟨T_F, 11, t_F, rfl, in_F, t_F_ok, n_F, by decide, gw_in (82 + 370) (by decide +kernel) rfl, rfl, rfl, rfl⟩
theorem fo_F_46 : FLo "ForgoneShop" 46 8 6 := ⟨T_F, 11, t_F, rfl, in_F, t_F_ok, n_F, by decide, gw_in (82 + 371) (by decide +kernel) rfl, rfl, rfl, rfl⟩
theorem fo_F_50 : FLo "ForgoneShop" 50 8 7 := ⟨T_F, 11, t_F, rfl, in_F, t_F_ok, n_F, by decide, gw_in (82 + 372) (by decide +kernel) rfl, rfl, rfl, rfl⟩
theorem fo_F_56 : FLo "ForgoneShop" 56 8 8 := ⟨T_F, 11, t_F, rfl, in_F, t_F_ok, n_F, by decide, gw_in (82 + 373) (by decide +kernel) rfl, rfl, rfl, rfl⟩
theorem fo_F_63 : FLo "ForgoneShop" 63 8 9 := ⟨T_F, 11, t_F, rfl, in_F, t_F_ok, n_F, by decide, gw_in (82 + 374) (by decide +kernel) rfl, rfl, rfl, rfl⟩
theorem fo_F_70 : FLo "ForgoneShop" 70 8 10 := ⟨T_F, 11, t_F, rfl, in_F, t_F_ok, n_F, by decide, gw_in (82 + 375) (by decide +kernel) rfl, rfl, rfl, rfl⟩
def i_Z_init : List (Nat × (Instr × Nat)) := [(0, (.aload_n 0, 1)), (1, (.invokespecial 3, 3)), (4, (.aload_n 0, 1)), (5, (.bipush 12, 2)), (7, (.newarray .int, 2)), (9, (.putfield 9, 3)), (12, (.aload_n 0, 1)), (13, (.bipush 8, 2)), (15, (.newarray .int, 2)), (17, (.putfield 13, 3)), (20, (.aload_n 0, 1)), (21, (.bipush 8, 2)), (23, (.newarray .int, 2)), (25, (.putfield 16, 3)), (28, (.aload_n 0, 1)), (29, (.bipush 8, 2)), (31, (.newarray .int, 2)), (33, (.putfield 19, 3)), (36, (.aload_n 0, 1)), (37, (.iconst 5, 1)), (38, (.newarray .int, 2)), (40, (.putfield 22, 3)), (43, (.aload_n 0, 1)), (44, (.iconst 5, 1)), (45, (.newarray .int, 2)), (47, (.putfield 25, 3)), (50, (.aload_n 0, 1)), (51, (.bipush 8, 2)), (53, (.newarray .int, 2)), (55, (.putfield 28, 3)), (58, (.aload_n 0, 1)), (59, (.bipush 8, 2)), (61, (.newarray .int, 2)), (63, (.putfield 31, 3)), (66, (.aload_n 0, 1)), (67, (.bipush 6, 2)), (69, (.newarray .int, 2)), (71, (.putfield 34, 3)), (74, (.aload_n 0, 1)), (75, (.bipush 6, 2)), (77, (.newarray .int, 2)), (79, (.putfield 37, 3)), (82, (.aload_n 0, 1)), (83, (.bipush 6, 2)), (85, (.newarray .int, 2)), (87, (.putfield 40, 3)), (90, (.aload_n 0, 1)), (91, (.sipush 200, 3)), (94, (.newarray .int, 2)), (96, (.putfield 43, 3)), (99, (.aload_n 0, 1)), (100, (.iconst 5, 1)), (101, (.newarray .int, 2)), (103, (.putfield 46, 3)), (106, (.aload_n 0, 1)), (107, (.bipush 32, 2)), (109, (.newarray .int, 2)), (111, (.putfield 49, 3)), (114, (.aload_n 0, 1)), (115, (.bipush 12, 2)), (117, (.newarray .int, 2)), (119, (.putfield 52, 3)), (122, (.aload_n 0, 1)), (123, (.sipush 224, 3)), (126, (.newarray .int, 2)), (128, (.putfield 55, 3)), (131, (.aload_n 0, 1)), (132, (.bipush 28, 2)), (134, (.newarray .int, 2)), (136, (.putfield 58, 3)), (139, (.aload_n 0, 1)), (140, (.bipush 8, 2)), (142, (.newarray .int, 2)), (144, (.putfield 61, 3)), (147, (.aload_n 0, 1)), (148, (.bipush 8, 2)), (150, (.newarray .int, 2)), (152, (.putfield 64, 3)), (155, (.aload_n 0, 1)), (156, (.sipush 256, 3)), (159, (.newarray .int, 2)), (161, (.putfield 67, 3)), (164, (.aload_n 0, 1)), (165, (.bipush 56, 2)), (167, (.newarray .int, 2)), (169, (.putfield 70, 3)), (172, (.aload_n 0, 1)), (173, (.iconst 4, 1)), (174, (.putfield 73, 3)), (177, (.aload_n 0, 1)), (178, (.getfield 22, 3)), (181, (.iconst 0, 1)), (182, (.iconst 5, 1)), (183, (.iastore, 1)), (184, (.aload_n 0, 1)), (185, (.getfield 22, 3)), (188, (.iconst 2, 1)), (189, (.bipush 12, 2)), (191, (.iastore, 1)), (192, (.aload_n 0, 1)), (193, (.getfield 22, 3)), (196, (.iconst 3, 1)), (197, (.bipush 30, 2)), (199, (.iastore, 1)), (200, (.aload_n 0, 1)), (201, (.iconst 0, 1)), (202, (.iconst 0, 1)), (203, (.iconst 0, 1)), (204, (.bipush 6, 2)), (206, (.iconst 2, 1)), (207, (.invokevirtual 77, 3)), (210, (.aload_n 0, 1)), (211, (.iconst 1, 1)), (212, (.iconst 0, 1)), (213, (.iconst 1, 1)), (214, (.bipush 9, 2)), (216, (.bipush 7, 2)), (218, (.invokevirtual 77, 3)), (221, (.aload_n 0, 1)), (222, (.iconst 2, 1)), (223, (.iconst 1, 1)), (224, (.iconst 3, 1)), (225, (.bipush 14, 2)), (227, (.iconst 0, 1)), (228, (.invokevirtual 77, 3)), (231, (.aload_n 0, 1)), (232, (.iconst 3, 1)), (233, (.iconst 1, 1)), (234, (.iconst 2, 1)), (235, (.bipush 8, 2)), (237, (.iconst 3, 1)), (238, (.invokevirtual 77, 3)), (241, (.aload_n 0, 1)), (242, (.iconst 4, 1)), (243, (.iconst 2, 1)), (244, (.iconst 0, 1)), (245, (.iconst 3, 1)), (246, (.iconst 1, 1)), (247, (.invokevirtual 77, 3)), (250, (.aload_n 0, 1)), (251, (.iconst 5, 1)), (252, (.iconst 2, 1)), (253, (.iconst 1, 1)), (254, (.bipush 12, 2)), (256, (.bipush 15, 2)), (258, (.invokevirtual 77, 3)), (261, (.aload_n 0, 1)), (262, (.bipush 6, 2)), (264, (.iconst 3, 1)), (265, (.iconst 0, 1)), (266, (.bipush 10, 2)), (268, (.iconst 4, 1)), (269, (.invokevirtual 77, 3)), (272, (.aload_n 0, 1)), (273, (.bipush 7, 2)), (275, (.iconst 3, 1)), (276, (.iconst 2, 1)), (277, (.iconst 5, 1)), (278, (.iconst 5, 1)), (279, (.invokevirtual 77, 3)), (282, (.aload_n 0, 1)), (283, (.bipush 8, 2)), (285, (.putfield 81, 3)), (288, (.aload_n 0, 1)), (289, (.getfield 9, 3)), (292, (.iconst 0, 1)), (293, (.iconst 3, 1)), (294, (.iastore, 1)), (295, (.aload_n 0, 1)), (296, (.getfield 9, 3)), (299, (.iconst 1, 1)), (300, (.iconst 2, 1)), (301, (.iastore, 1)), (302, (.aload_n 0, 1)), (303, (.getfield 9, 3)), (306, (.iconst 2, 1)), (307, (.iconst 5, 1)), (308, (.iastore, 1)), (309, (.aload_n 0, 1)), (310, (.getfield 9, 3)), (313, (.iconst 3, 1)), (314, (.iconst 1, 1)), (315, (.iastore, 1)), (316, (.aload_n 0, 1)), (317, (.iconst 4, 1)), (318, (.putfield 84, 3)), (321, (.aload_n 0, 1)), (322, (.bipush 80, 2)), (324, (.putfield 87, 3)), (327, (.aload_n 0, 1)), (328, (.iconst 5, 1)), (329, (.putfield 90, 3)), (332, (.return_, 1))]
theorem k_Z_init : i_Z_init.all (fun q => decide (decode b_Z_init q.1 = .ok q.2)) = true := by decide +kernel
theorem ol_Z : Cond.methodLink "ForgoneShopModel" 3 Lib.objectInit ∈ gw := gw_in (82 + 704) (by decide +kernel) rfl
theorem ii_Z : Cond.instanceMethod y_Z_init ∈ gw := gw_in (82 + 702) (by decide +kernel) rfl
theorem fo_Z_9 : FLo "ForgoneShopModel" 9 9 4 := ⟨T_Z, 39, t_Z, rfl, in_Z, t_Z_ok, n_Z, by decide, gw_in (82 + 713) (by decide +kernel) rfl, rfl, rfl, rfl⟩
theorem fo_Z_13 : FLo "ForgoneShopModel" 13 9 5 := ⟨T_Z, 39, t_Z, rfl, in_Z, t_Z_ok, n_Z, by decide, gw_in (82 + 714) (by decide +kernel) rfl, rfl, rfl, rfl⟩
theorem fo_Z_16 : FLo "ForgoneShopModel" 16 9 6 := ⟨T_Z, 39, t_Z, rfl, in_Z, t_Z_ok, n_Z, by decide, gw_in (82 + 715) (by decide +kernel) rfl, rfl, rfl, rfl⟩
theorem fo_Z_19 : FLo "ForgoneShopModel" 19 9 7 := ⟨T_Z, 39, t_Z, rfl, in_Z, t_Z_ok, n_Z, by decide, gw_in (82 + 716) (by decide +kernel) rfl, rfl, rfl, rfl⟩
theorem fo_Z_22 : FLo "ForgoneShopModel" 22 9 10 := ⟨T_Z, 39, t_Z, rfl, in_Z, t_Z_ok, n_Z, by decide, gw_in (82 + 719) (by decide +kernel) rfl, rfl, rfl, rfl⟩
theorem fo_Z_25 : FLo "ForgoneShopModel" 25 9 11 := ⟨T_Z, 39, t_Z, rfl, in_Z, t_Z_ok, n_Z, by decide, gw_in (82 + 720) (by decide +kernel) rfl, rfl, rfl, rfl⟩
theorem fo_Z_28 : FLo "ForgoneShopModel" 28 9 12 := ⟨T_Z, 39, t_Z, rfl, in_Z, t_Z_ok, n_Z, by decide, gw_in (82 + 721) (by decide +kernel) rfl, rfl, rfl, rfl⟩
theorem fo_Z_31 : FLo "ForgoneShopModel" 31 9 13 := ⟨T_Z, 39, t_Z, rfl, in_Z, t_Z_ok, n_Z, by decide, gw_in (82 + 722) (by decide +kernel) rfl, rfl, rfl, rfl⟩
theorem fo_Z_34 : FLo "ForgoneShopModel" 34 9 15 := ⟨T_Z, 39, t_Z, rfl, in_Z, t_Z_ok, n_Z, by decide, gw_in (82 + 724) (by decide +kernel) rfl, rfl, rfl, rfl⟩
theorem fo_Z_37 : FLo "ForgoneShopModel" 37 9 16 := ⟨T_Z, 39, t_Z, rfl, in_Z, t_Z_ok, n_Z, by decide, gw_in (82 + 725) (by decide +kernel) rfl, rfl, rfl, rfl⟩
theorem fo_Z_40 : FLo "ForgoneShopModel" 40 9 17 := ⟨T_Z, 39, t_Z, rfl, in_Z, t_Z_ok, n_Z, by decide, gw_in (82 + 726) (by decide +kernel) rfl, rfl, rfl, rfl⟩
theorem fo_Z_43 : FLo "ForgoneShopModel" 43 9 18 := ⟨T_Z, 39, t_Z, rfl, in_Z, t_Z_ok, n_Z, by decide, gw_in (82 + 727) (by decide +kernel) rfl, rfl, rfl, rfl⟩
theorem fo_Z_46 : FLo "ForgoneShopModel" 46 9 26 := ⟨T_Z, 39, t_Z, rfl, in_Z, t_Z_ok, n_Z, by decide, gw_in (82 + 735) (by decide +kernel) rfl, rfl, rfl, rfl⟩
theorem fo_Z_49 : FLo "ForgoneShopModel" 49 9 27 := ⟨T_Z, 39, t_Z, rfl, in_Z, t_Z_ok, n_Z, by decide, gw_in (82 + 736) (by decide +kernel) rfl, rfl, rfl, rfl⟩
theorem fo_Z_52 : FLo "ForgoneShopModel" 52 9 28 := ⟨T_Z, 39, t_Z, rfl, in_Z, t_Z_ok, n_Z, by decide, gw_in (82 + 737) (by decide +kernel) rfl, rfl, rfl, rfl⟩
theorem fo_Z_55 : FLo "ForgoneShopModel" 55 9 30 := ⟨T_Z, 39, t_Z, rfl, in_Z, t_Z_ok, n_Z, by decide, gw_in (82 + 739) (by decide +kernel) rfl, rfl, rfl, rfl⟩
theorem fo_Z_58 : FLo "ForgoneShopModel" 58 9 32 := ⟨T_Z, 39, t_Z, rfl, in_Z, t_Z_ok, n_Z, by decide, gw_in (82 + 741) (by decide +kernel) rfl, rfl, rfl, rfl⟩
theorem fo_Z_61 : FLo "ForgoneShopModel" 61 9 34 := ⟨T_Z, 39, t_Z, rfl, in_Z, t_Z_ok, n_Z, by decide, gw_in (82 + 743) (by decide +kernel) rfl, rfl, rfl, rfl⟩
theorem fo_Z_64 : FLo "ForgoneShopModel" 64 9 35 := ⟨T_Z, 39, t_Z, rfl, in_Z, t_Z_ok, n_Z, by decide, gw_in (82 + 744) (by decide +kernel) rfl, rfl, rfl, rfl⟩
theorem fo_Z_67 : FLo "ForgoneShopModel" 67 9 36 := ⟨T_Z, 39, t_Z, rfl, in_Z, t_Z_ok, n_Z, by decide, gw_in (82 + 745) (by decide +kernel) rfl, rfl, rfl, rfl⟩
theorem fo_Z_70 : FLo "ForgoneShopModel" 70 9 37 := ⟨T_Z, 39, t_Z, rfl, in_Z, t_Z_ok, n_Z, by decide, gw_in (82 + 746) (by decide +kernel) rfl, rfl, rfl, rfl⟩
theorem nw_F_7 : NWq "ForgoneShop" 7 2 := ⟨R_L, T_L, 2, t_L, rfl, in_L, t_L_ok, by decide +kernel, by decide +kernel, gw_in (82 + 24) (by decide +kernel) rfl, gw_in (82 + 25) (by decide +kernel) rfl, gw_in (82 + 2) (by decide +kernel) rfl⟩
theorem li_F_9 : LK "ForgoneShop" 9 y_L_init := Or.inr ⟨"ForgoneShop", nw_in (82 + 26) (by decide +kernel) rfl⟩
theorem nw_F_16 : NWq "ForgoneShop" 16 6 := ⟨R_R, T_R, 2, t_R, rfl, in_R, t_R_ok, by decide +kernel, by decide +kernel, gw_in (82 + 40) (by decide +kernel) rfl, gw_in (82 + 41) (by decide +kernel) rfl, gw_in (82 + 3) (by decide +kernel) rfl⟩
theorem li_F_18 : LK "ForgoneShop" 18 y_R_init := Or.inr ⟨"ForgoneShop", nw_in (82 + 42) (by decide +kernel) rfl⟩
theorem nw_F_23 : NWq "ForgoneShop" 23 5 := ⟨R_P, T_P, 11, t_P, rfl, in_P, t_P_ok, by decide +kernel, by decide +kernel, gw_in (82 + 54) (by decide +kernel) rfl, gw_in (82 + 55) (by decide +kernel) rfl, gw_in (82 + 4) (by decide +kernel) rfl⟩
theorem li_F_25 : LK "ForgoneShop" 25 y_P_init := Or.inr ⟨"ForgoneShop", nw_in (82 + 56) (by decide +kernel) rfl⟩
theorem nw_F_33 : NWq "ForgoneShop" 33 7 := ⟨R_S, T_S, 6, t_S, rfl, in_S, t_S_ok, by decide +kernel, by decide +kernel, gw_in (82 + 112) (by decide +kernel) rfl, gw_in (82 + 113) (by decide +kernel) rfl, gw_in (82 + 5) (by decide +kernel) rfl⟩
theorem li_F_35 : LK "ForgoneShop" 35 y_S_init := Or.inr ⟨"ForgoneShop", nw_in (82 + 114) (by decide +kernel) rfl⟩
theorem nw_F_43 : NWq "ForgoneShop" 43 4 := ⟨R_M, T_M, 3, t_M, rfl, in_M, t_M_ok, by decide +kernel, by decide +kernel, gw_in (82 + 144) (by decide +kernel) rfl, gw_in (82 + 145) (by decide +kernel) rfl, gw_in (82 + 6) (by decide +kernel) rfl⟩
theorem li_F_45 : LK "ForgoneShop" 45 y_M_init := Or.inr ⟨"ForgoneShop", nw_in (82 + 146) (by decide +kernel) rfl⟩
theorem nw_F_53 : NWq "ForgoneShop" 53 3 := ⟨R_K, T_K, 4, t_K, rfl, in_K, t_K_ok, by decide +kernel, by decide +kernel, gw_in (82 + 164) (by decide +kernel) rfl, gw_in (82 + 165) (by decide +kernel) rfl, gw_in (82 + 7) (by decide +kernel) rfl⟩
theorem li_F_55 : LK "ForgoneShop" 55 y_K_init := Or.inr ⟨"ForgoneShop", nw_in (82 + 166) (by decide +kernel) rfl⟩
theorem nw_F_60 : NWq "ForgoneShop" 60 0 := ⟨R_C, T_C, 6, t_C, rfl, in_C, t_C_ok, by decide +kernel, by decide +kernel, gw_in (82 + 187) (by decide +kernel) rfl, gw_in (82 + 188) (by decide +kernel) rfl, gw_in (82 + 8) (by decide +kernel) rfl⟩
theorem li_F_62 : LK "ForgoneShop" 62 y_C_init := Or.inr ⟨"ForgoneShop", nw_in (82 + 189) (by decide +kernel) rfl⟩
theorem nw_F_67 : NWq "ForgoneShop" 67 1 := ⟨R_E, T_E, 8, t_E, rfl, in_E, t_E_ok, by decide +kernel, by decide +kernel, gw_in (82 + 214) (by decide +kernel) rfl, gw_in (82 + 215) (by decide +kernel) rfl, gw_in (82 + 9) (by decide +kernel) rfl⟩
theorem li_F_69 : LK "ForgoneShop" 69 y_E_init := Or.inr ⟨"ForgoneShop", nw_in (82 + 216) (by decide +kernel) rfl⟩
theorem nw_M_9 : NWq "ForgoneShop$Memory" 9 7 := ⟨R_S, T_S, 6, t_S, rfl, in_S, t_S_ok, by decide +kernel, by decide +kernel, gw_in (82 + 150) (by decide +kernel) rfl, gw_in (82 + 113) (by decide +kernel) rfl, gw_in (82 + 5) (by decide +kernel) rfl⟩
theorem li_M_15 : LK "ForgoneShop$Memory" 15 y_S_init := Or.inr ⟨"ForgoneShop", nw_in (82 + 152) (by decide +kernel) rfl⟩
theorem nw_W_7 : NWq "ForgoneShopLaw" 7 8 := ⟨R_F, T_F, 11, t_F, rfl, in_F, t_F_ok, by decide +kernel, by decide +kernel, gw_in (82 + 16) (by decide +kernel) rfl, gw_in (82 + 17) (by decide +kernel) rfl, gw_in (82 + 1) (by decide +kernel) rfl⟩
theorem li_W_9 : LK "ForgoneShopLaw" 9 y_F_init := Or.inl (gw_in (82 + 18) (by decide +kernel) rfl)
theorem nw_W_10 : NWq "ForgoneShopLaw" 10 9 := ⟨R_Z, T_Z, 39, t_Z, rfl, in_Z, t_Z_ok, by decide +kernel, by decide +kernel, gw_in (82 + 699) (by decide +kernel) rfl, gw_in (82 + 700) (by decide +kernel) rfl, gw_in (82 + 14) (by decide +kernel) rfl⟩
theorem li_W_12 : LK "ForgoneShopLaw" 12 y_Z_init := Or.inl (gw_in (82 + 701) (by decide +kernel) rfl)
theorem c_L_init (l : Launch) (G : GE) (σ : Wd) (o : Nat) (hk0 : kd o = 2) (hk1 : kd (o + 1) = 2200) (hb : o + 2 ≤ 128) (hzo : ∀ a, o ≤ a → ∀ i, σ a i = 0) : CtN NoX l G y_L_init b_L_init 1 1 20 1 200 128 [vR o] 0 (o + 1) 0 (o + 2) σ (Mde o (o + 2) σ) := by
  refine CtN.of cm_L_init (Nat.le_refl 1) rfl ?_
  intro X hXl hXG hXN hRm C hr I E hX
  have hz0 : ∀ a, o < a → ∀ i, σ a i = 0 := fun a h => hzo a (by omega)
  have h0_0 : σ o = mks [] := mks_nil (hzo o (Nat.le_refl o))
  have hr_0 : ∀ a, a ≠ o → σ a = σ a := fun _ _ => rfl
  refine VN_aload_n (pc := 0) (z := o) C (dk k_L_init 0 rfl) rfl ?_
  refine VN_obj (pc := 1) C (dk k_L_init 1 rfl) ol_L (by decide) hRm ?_
  refine VN_aload_n (pc := 4) (z := o) C (dk k_L_init 2 rfl) rfl ?_
  refine VN_sipush (pc := 5) (n' := 200) C (dk k_L_init 3 rfl) rfl ?_
  refine VN_newC (pc := 8) (len := 200) (wn := o + 1) (wn' := o + 2) (wc' := 1) (wq' := 200) C (dk k_L_init 4 rfl) hk1 (by decide) (Or.inl (by omega)) (Nat.zero_le _) (hz0 (o + 1) (by omega)) rfl rfl rfl (hr.le (by decide) (by decide)) ?_
  refine VN_putF (pc := 10) C I (dk k_L_init 5 rfl) fo_L_9 hk0 (by decide) rfl ⟨by decide, by decide⟩ (by omega) (Nat.zero_le _) (by omega) rfl ?_
  have hz1 := zr_up (x := ((0 : Nat) : Int)) (y := 1) hz0
  have h0_1 := up_mks (x := ((0 : Nat) : Int)) h0_0
  have hr_1 := Mde.up (n := 0) (x := ((0 : Nat) : Int)) (y := 1) hr_0
  exact VN_ret (pc := 13) C E (Or.inl (by omega)) (fun _ => rfl) (dk k_L_init 6 rfl) (Mde.of hk0 h0_1 hzo hr_1 (fun a h1 h2 => by
    rcases (show a = o + 1 by omega) with rfl
    · rw [hk1]; rfl) (by omega))
theorem c_R_init (l : Launch) (G : GE) (σ : Wd) (o : Nat) (hk0 : kd o = 6) (hk1 : kd (o + 1) = 1004) (hb : o + 2 ≤ 128) (hzo : ∀ a, o ≤ a → ∀ i, σ a i = 0) : CtN NoX l G y_R_init b_R_init 1 1 20 1 4 128 [vR o] 0 (o + 1) 0 (o + 2) σ (Mde o (o + 2) σ) := by
  refine CtN.of cm_R_init (Nat.le_refl 1) rfl ?_
  intro X hXl hXG hXN hRm C hr I E hX
  have hz0 : ∀ a, o < a → ∀ i, σ a i = 0 := fun a h => hzo a (by omega)
  have h0_0 : σ o = mks [] := mks_nil (hzo o (Nat.le_refl o))
  have hr_0 : ∀ a, a ≠ o → σ a = σ a := fun _ _ => rfl
  refine VN_aload_n (pc := 0) (z := o) C (dk k_R_init 0 rfl) rfl ?_
  refine VN_obj (pc := 1) C (dk k_R_init 1 rfl) ol_R (by decide) hRm ?_
  refine VN_aload_n (pc := 4) (z := o) C (dk k_R_init 2 rfl) rfl ?_
  refine VN_iconst (pc := 5) C (dk k_R_init 3 rfl) rfl ?_
  refine VN_newI (pc := 6) (len := 4) (wn := o + 1) (wn' := o + 2) (wc' := 1) (wq' := 4) C (dk k_R_init 4 rfl) hk1 (by decide) (Or.inl (by omega)) (Nat.zero_le _) (hz0 (o + 1) (by omega)) rfl rfl rfl (hr.le (by decide) (by decide)) ?_
  refine VN_putF (pc := 8) C I (dk k_R_init 5 rfl) fo_R_9 hk0 (by decide) rfl ⟨by decide, by decide⟩ (by omega) (Nat.zero_le _) (by omega) rfl ?_
  have hz1 := zr_up (x := ((0 : Nat) : Int)) (y := 1) hz0
  have h0_1 := up_mks (x := ((0 : Nat) : Int)) h0_0
  have hr_1 := Mde.up (n := 0) (x := ((0 : Nat) : Int)) (y := 1) hr_0
  exact VN_ret (pc := 11) C E (Or.inl (by omega)) (fun _ => rfl) (dk k_R_init 6 rfl) (Mde.of hk0 h0_1 hzo hr_1 (fun a h1 h2 => by
    rcases (show a = o + 1 by omega) with rfl
    · rw [hk1]; rfl) (by omega))
theorem c_P_init (l : Launch) (G : GE) (σ : Wd) (o : Nat) (hk0 : kd o = 5) (hk1 : kd (o + 1) = 1005) (hk2 : kd (o + 2) = 1008) (hk3 : kd (o + 3) = 1008) (hk4 : kd (o + 4) = 1008) (hk5 : kd (o + 5) = 1008) (hk6 : kd (o + 6) = 1012) (hb : o + 7 ≤ 128) (hzo : ∀ a, o ≤ a → ∀ i, σ a i = 0) : CtN NoX l G y_P_init b_P_init 1 1 20 6 49 128 [vR o] 0 (o + 1) 0 (o + 7) σ (Mde o (o + 7) σ) := by
  refine CtN.of cm_P_init (Nat.le_refl 1) rfl ?_
  intro X hXl hXG hXN hRm C hr I E hX
  have hz0 : ∀ a, o < a → ∀ i, σ a i = 0 := fun a h => hzo a (by omega)
  have h0_0 : σ o = mks [] := mks_nil (hzo o (Nat.le_refl o))
  have hr_0 : ∀ a, a ≠ o → σ a = σ a := fun _ _ => rfl
  refine VN_aload_n (pc := 0) (z := o) C (dk k_P_init 0 rfl) rfl ?_
  refine VN_obj (pc := 1) C (dk k_P_init 1 rfl) ol_P (by decide) hRm ?_
  refine VN_aload_n (pc := 4) (z := o) C (dk k_P_init 2 rfl) rfl ?_
  refine VN_iconst (pc := 5) C (dk k_P_init 3 rfl) rfl ?_
  refine VN_newI (pc := 6) (len := 5) (wn := o + 1) (wn' := o + 2) (wc' := 1) (wq' := 5) C (dk k_P_init 4 rfl) hk1 (by decide) (Or.inl (by omega)) (Nat.zero_le _) (hz0 (o + 1) (by omega)) rfl rfl rfl (hr.le (by decide) (by decide)) ?_
  refine VN_putF (pc := 8) C I (dk k_P_init 5 rfl) fo_P_9 hk0 (by decide) rfl ⟨by decide, by decide⟩ (by omega) (Nat.zero_le _) (by omega) rfl ?_
  have hz1 := zr_up (x := ((1 : Nat) : Int)) (y := 1) hz0
  have h0_1 := up_mks (x := ((1 : Nat) : Int)) h0_0
  have hr_1 := Mde.up (n := 0) (x := ((1 : Nat) : Int)) (y := 1) hr_0
  refine VN_aload_n (pc := 11) (z := o) C (dk k_P_init 6 rfl) rfl ?_
  refine VN_bipush (pc := 12) (n' := 8) C (dk k_P_init 7 rfl) rfl ?_
  refine VN_newI (pc := 14) (len := 8) (wn := o + 2) (wn' := o + 3) (wc' := 2) (wq' := 13) C (dk k_P_init 8 rfl) hk2 (by decide) (Or.inl (by omega)) (Nat.zero_le _) (hz1 (o + 2) (by omega)) rfl rfl rfl (hr.le (by decide) (by decide)) ?_
  refine VN_putF (pc := 16) C I (dk k_P_init 9 rfl) fo_P_15 hk0 (by decide) rfl ⟨by decide, by decide⟩ (by omega) (Nat.zero_le _) (by omega) rfl ?_
  have hz2 := zr_up (x := ((3 : Nat) : Int)) (y := 1) hz1
  have h0_2 := up_mks (x := ((3 : Nat) : Int)) h0_1
  have hr_2 := Mde.up (n := 0) (x := ((3 : Nat) : Int)) (y := 1) hr_1
  refine VN_aload_n (pc := 19) (z := o) C (dk k_P_init 10 rfl) rfl ?_
  refine VN_bipush (pc := 20) (n' := 8) C (dk k_P_init 11 rfl) rfl ?_
  refine VN_newI (pc := 22) (len := 8) (wn := o + 3) (wn' := o + 4) (wc' := 3) (wq' := 21) C (dk k_P_init 12 rfl) hk3 (by decide) (Or.inl (by omega)) (Nat.zero_le _) (hz2 (o + 3) (by omega)) rfl rfl rfl (hr.le (by decide) (by decide)) ?_
  refine VN_putF (pc := 24) C I (dk k_P_init 13 rfl) fo_P_18 hk0 (by decide) rfl ⟨by decide, by decide⟩ (by omega) (Nat.zero_le _) (by omega) rfl ?_
  have hz3 := zr_up (x := ((4 : Nat) : Int)) (y := 1) hz2
  have h0_3 := up_mks (x := ((4 : Nat) : Int)) h0_2
  have hr_3 := Mde.up (n := 0) (x := ((4 : Nat) : Int)) (y := 1) hr_2
  refine VN_aload_n (pc := 27) (z := o) C (dk k_P_init 14 rfl) rfl ?_
  refine VN_bipush (pc := 28) (n' := 8) C (dk k_P_init 15 rfl) rfl ?_
  refine VN_newI (pc := 30) (len := 8) (wn := o + 4) (wn' := o + 5) (wc' := 4) (wq' := 29) C (dk k_P_init 16 rfl) hk4 (by decide) (Or.inl (by omega)) (Nat.zero_le _) (hz3 (o + 4) (by omega)) rfl rfl rfl (hr.le (by decide) (by decide)) ?_
  refine VN_putF (pc := 32) C I (dk k_P_init 17 rfl) fo_P_21 hk0 (by decide) rfl ⟨by decide, by decide⟩ (by omega) (Nat.zero_le _) (by omega) rfl ?_
  have hz4 := zr_up (x := ((5 : Nat) : Int)) (y := 1) hz3
  have h0_4 := up_mks (x := ((5 : Nat) : Int)) h0_3
  have hr_4 := Mde.up (n := 0) (x := ((5 : Nat) : Int)) (y := 1) hr_3
  refine VN_aload_n (pc := 35) (z := o) C (dk k_P_init 18 rfl) rfl ?_
  refine VN_bipush (pc := 36) (n' := 8) C (dk k_P_init 19 rfl) rfl ?_
  refine VN_newI (pc := 38) (len := 8) (wn := o + 5) (wn' := o + 6) (wc' := 5) (wq' := 37) C (dk k_P_init 20 rfl) hk5 (by decide) (Or.inl (by omega)) (Nat.zero_le _) (hz4 (o + 5) (by omega)) rfl rfl rfl (hr.le (by decide) (by decide)) ?_
  refine VN_putF (pc := 40) C I (dk k_P_init 21 rfl) fo_P_24 hk0 (by decide) rfl ⟨by decide, by decide⟩ (by omega) (Nat.zero_le _) (by omega) rfl ?_
  have hz5 := zr_up (x := ((6 : Nat) : Int)) (y := 1) hz4
  have h0_5 := up_mks (x := ((6 : Nat) : Int)) h0_4
  have hr_5 := Mde.up (n := 0) (x := ((6 : Nat) : Int)) (y := 1) hr_4
  refine VN_aload_n (pc := 43) (z := o) C (dk k_P_init 22 rfl) rfl ?_
  refine VN_bipush (pc := 44) (n' := 12) C (dk k_P_init 23 rfl) rfl ?_
  refine VN_newI (pc := 46) (len := 12) (wn := o + 6) (wn' := o + 7) (wc' := 6) (wq' := 49) C (dk k_P_init 24 rfl) hk6 (by decide) (Or.inl (by omega)) (Nat.zero_le _) (hz5 (o + 6) (by omega)) rfl rfl rfl (hr.le (by decide) (by decide)) ?_
  refine VN_putF (pc := 48) C I (dk k_P_init 25 rfl) fo_P_27 hk0 (by decide) rfl ⟨by decide, by decide⟩ (by omega) (Nat.zero_le _) (by omega) rfl ?_
  have hz6 := zr_up (x := ((8 : Nat) : Int)) (y := 1) hz5
  have h0_6 := up_mks (x := ((8 : Nat) : Int)) h0_5
  have hr_6 := Mde.up (n := 0) (x := ((8 : Nat) : Int)) (y := 1) hr_5
  exact VN_ret (pc := 51) C E (Or.inl (by omega)) (fun _ => rfl) (dk k_P_init 26 rfl) (Mde.of hk0 h0_6 hzo hr_6 (fun a h1 h2 => by
    rcases (show a = o + 1 ∨ a = o + 2 ∨ a = o + 3 ∨ a = o + 4 ∨ a = o + 5 ∨ a = o + 6 by omega) with rfl | rfl | rfl | rfl | rfl | rfl
    · rw [hk1]; rfl
    · rw [hk2]; rfl
    · rw [hk3]; rfl
    · rw [hk4]; rfl
    · rw [hk5]; rfl
    · rw [hk6]; rfl) (by omega))
theorem c_S_init (l : Launch) (G : GE) (σ : Wd) (o : Nat) (hk0 : kd o = 7) (hk1 : kd (o + 1) = 1005) (hk2 : kd (o + 2) = 1005) (hk3 : kd (o + 3) = 1008) (hk4 : kd (o + 4) = 1008) (hb : o + 5 ≤ 128) (hzo : ∀ a, o ≤ a → ∀ i, σ a i = 0) : CtN NoX l G y_S_init b_S_init 1 1 20 4 26 128 [vR o] 0 (o + 1) 0 (o + 5) σ (Mde o (o + 5) σ) := by
  refine CtN.of cm_S_init (Nat.le_refl 1) rfl ?_
  intro X hXl hXG hXN hRm C hr I E hX
  have hz0 : ∀ a, o < a → ∀ i, σ a i = 0 := fun a h => hzo a (by omega)
  have h0_0 : σ o = mks [] := mks_nil (hzo o (Nat.le_refl o))
  have hr_0 : ∀ a, a ≠ o → σ a = σ a := fun _ _ => rfl
  refine VN_aload_n (pc := 0) (z := o) C (dk k_S_init 0 rfl) rfl ?_
  refine VN_obj (pc := 1) C (dk k_S_init 1 rfl) ol_S (by decide) hRm ?_
  refine VN_aload_n (pc := 4) (z := o) C (dk k_S_init 2 rfl) rfl ?_
  refine VN_iconst (pc := 5) C (dk k_S_init 3 rfl) rfl ?_
  refine VN_newI (pc := 6) (len := 5) (wn := o + 1) (wn' := o + 2) (wc' := 1) (wq' := 5) C (dk k_S_init 4 rfl) hk1 (by decide) (Or.inl (by omega)) (Nat.zero_le _) (hz0 (o + 1) (by omega)) rfl rfl rfl (hr.le (by decide) (by decide)) ?_
  refine VN_putF (pc := 8) C I (dk k_S_init 5 rfl) fo_S_9 hk0 (by decide) rfl ⟨by decide, by decide⟩ (by omega) (Nat.zero_le _) (by omega) rfl ?_
  have hz1 := zr_up (x := ((2 : Nat) : Int)) (y := 1) hz0
  have h0_1 := up_mks (x := ((2 : Nat) : Int)) h0_0
  have hr_1 := Mde.up (n := 0) (x := ((2 : Nat) : Int)) (y := 1) hr_0
  refine VN_aload_n (pc := 11) (z := o) C (dk k_S_init 6 rfl) rfl ?_
  refine VN_iconst (pc := 12) C (dk k_S_init 7 rfl) rfl ?_
  refine VN_newI (pc := 13) (len := 5) (wn := o + 2) (wn' := o + 3) (wc' := 2) (wq' := 10) C (dk k_S_init 8 rfl) hk2 (by decide) (Or.inl (by omega)) (Nat.zero_le _) (hz1 (o + 2) (by omega)) rfl rfl rfl (hr.le (by decide) (by decide)) ?_
  refine VN_putF (pc := 15) C I (dk k_S_init 9 rfl) fo_S_15 hk0 (by decide) rfl ⟨by decide, by decide⟩ (by omega) (Nat.zero_le _) (by omega) rfl ?_
  have hz2 := zr_up (x := ((3 : Nat) : Int)) (y := 1) hz1
  have h0_2 := up_mks (x := ((3 : Nat) : Int)) h0_1
  have hr_2 := Mde.up (n := 0) (x := ((3 : Nat) : Int)) (y := 1) hr_1
  refine VN_aload_n (pc := 18) (z := o) C (dk k_S_init 10 rfl) rfl ?_
  refine VN_bipush (pc := 19) (n' := 8) C (dk k_S_init 11 rfl) rfl ?_
  refine VN_newI (pc := 21) (len := 8) (wn := o + 3) (wn' := o + 4) (wc' := 3) (wq' := 18) C (dk k_S_init 12 rfl) hk3 (by decide) (Or.inl (by omega)) (Nat.zero_le _) (hz2 (o + 3) (by omega)) rfl rfl rfl (hr.le (by decide) (by decide)) ?_
  refine VN_putF (pc := 23) C I (dk k_S_init 13 rfl) fo_S_18 hk0 (by decide) rfl ⟨by decide, by decide⟩ (by omega) (Nat.zero_le _) (by omega) rfl ?_
  have hz3 := zr_up (x := ((4 : Nat) : Int)) (y := 1) hz2
  have h0_3 := up_mks (x := ((4 : Nat) : Int)) h0_2
  have hr_3 := Mde.up (n := 0) (x := ((4 : Nat) : Int)) (y := 1) hr_2
  refine VN_aload_n (pc := 26) (z := o) C (dk k_S_init 14 rfl) rfl ?_
  refine VN_bipush (pc := 27) (n' := 8) C (dk k_S_init 15 rfl) rfl ?_
  refine VN_newI (pc := 29) (len := 8) (wn := o + 4) (wn' := o + 5) (wc' := 4) (wq' := 26) C (dk k_S_init 16 rfl) hk4 (by decide) (Or.inl (by omega)) (Nat.zero_le _) (hz3 (o + 4) (by omega)) rfl rfl rfl (hr.le (by decide) (by decide)) ?_
  refine VN_putF (pc := 31) C I (dk k_S_init 17 rfl) fo_S_21 hk0 (by decide) rfl ⟨by decide, by decide⟩ (by omega) (Nat.zero_le _) (by omega) rfl ?_
  have hz4 := zr_up (x := ((5 : Nat) : Int)) (y := 1) hz3
  have h0_4 := up_mks (x := ((5 : Nat) : Int)) h0_3
  have hr_4 := Mde.up (n := 0) (x := ((5 : Nat) : Int)) (y := 1) hr_3
  exact VN_ret (pc := 34) C E (Or.inl (by omega)) (fun _ => rfl) (dk k_S_init 18 rfl) (Mde.of hk0 h0_4 hzo hr_4 (fun a h1 h2 => by
    rcases (show a = o + 1 ∨ a = o + 2 ∨ a = o + 3 ∨ a = o + 4 by omega) with rfl | rfl | rfl | rfl
    · rw [hk1]; rfl
    · rw [hk2]; rfl
    · rw [hk3]; rfl
    · rw [hk4]; rfl) (by omega))
theorem c_K_init (l : Launch) (G : GE) (σ : Wd) (o : Nat) (hk0 : kd o = 3) (hk1 : kd (o + 1) = 1006) (hk2 : kd (o + 2) = 1006) (hk3 : kd (o + 3) = 1006) (hb : o + 4 ≤ 128) (hzo : ∀ a, o ≤ a → ∀ i, σ a i = 0) : CtN NoX l G y_K_init b_K_init 1 1 20 3 18 128 [vR o] 0 (o + 1) 0 (o + 4) σ (Mde o (o + 4) σ) := by
  refine CtN.of cm_K_init (Nat.le_refl 1) rfl ?_
  intro X hXl hXG hXN hRm C hr I E hX
  have hz0 : ∀ a, o < a → ∀ i, σ a i = 0 := fun a h => hzo a (by omega)
  have h0_0 : σ o = mks [] := mks_nil (hzo o (Nat.le_refl o))
  have hr_0 : ∀ a, a ≠ o → σ a = σ a := fun _ _ => rfl
  refine VN_aload_n (pc := 0) (z := o) C (dk k_K_init 0 rfl) rfl ?_
  refine VN_obj (pc := 1) C (dk k_K_init 1 rfl) ol_K (by decide) hRm ?_
  refine VN_aload_n (pc := 4) (z := o) C (dk k_K_init 2 rfl) rfl ?_
  refine VN_bipush (pc := 5) (n' := 6) C (dk k_K_init 3 rfl) rfl ?_
  refine VN_newI (pc := 7) (len := 6) (wn := o + 1) (wn' := o + 2) (wc' := 1) (wq' := 6) C (dk k_K_init 4 rfl) hk1 (by decide) (Or.inl (by omega)) (Nat.zero_le _) (hz0 (o + 1) (by omega)) rfl rfl rfl (hr.le (by decide) (by decide)) ?_
  refine VN_putF (pc := 9) C I (dk k_K_init 5 rfl) fo_K_9 hk0 (by decide) rfl ⟨by decide, by decide⟩ (by omega) (Nat.zero_le _) (by omega) rfl ?_
  have hz1 := zr_up (x := ((0 : Nat) : Int)) (y := 1) hz0
  have h0_1 := up_mks (x := ((0 : Nat) : Int)) h0_0
  have hr_1 := Mde.up (n := 0) (x := ((0 : Nat) : Int)) (y := 1) hr_0
  refine VN_aload_n (pc := 12) (z := o) C (dk k_K_init 6 rfl) rfl ?_
  refine VN_bipush (pc := 13) (n' := 6) C (dk k_K_init 7 rfl) rfl ?_
  refine VN_newI (pc := 15) (len := 6) (wn := o + 2) (wn' := o + 3) (wc' := 2) (wq' := 12) C (dk k_K_init 8 rfl) hk2 (by decide) (Or.inl (by omega)) (Nat.zero_le _) (hz1 (o + 2) (by omega)) rfl rfl rfl (hr.le (by decide) (by decide)) ?_
  refine VN_putF (pc := 17) C I (dk k_K_init 9 rfl) fo_K_15 hk0 (by decide) rfl ⟨by decide, by decide⟩ (by omega) (Nat.zero_le _) (by omega) rfl ?_
  have hz2 := zr_up (x := ((1 : Nat) : Int)) (y := 1) hz1
  have h0_2 := up_mks (x := ((1 : Nat) : Int)) h0_1
  have hr_2 := Mde.up (n := 0) (x := ((1 : Nat) : Int)) (y := 1) hr_1
  refine VN_aload_n (pc := 20) (z := o) C (dk k_K_init 10 rfl) rfl ?_
  refine VN_bipush (pc := 21) (n' := 6) C (dk k_K_init 11 rfl) rfl ?_
  refine VN_newI (pc := 23) (len := 6) (wn := o + 3) (wn' := o + 4) (wc' := 3) (wq' := 18) C (dk k_K_init 12 rfl) hk3 (by decide) (Or.inl (by omega)) (Nat.zero_le _) (hz2 (o + 3) (by omega)) rfl rfl rfl (hr.le (by decide) (by decide)) ?_
  refine VN_putF (pc := 25) C I (dk k_K_init 13 rfl) fo_K_18 hk0 (by decide) rfl ⟨by decide, by decide⟩ (by omega) (Nat.zero_le _) (by omega) rfl ?_
  have hz3 := zr_up (x := ((2 : Nat) : Int)) (y := 1) hz2
  have h0_3 := up_mks (x := ((2 : Nat) : Int)) h0_2
  have hr_3 := Mde.up (n := 0) (x := ((2 : Nat) : Int)) (y := 1) hr_2
  exact VN_ret (pc := 28) C E (Or.inl (by omega)) (fun _ => rfl) (dk k_K_init 14 rfl) (Mde.of hk0 h0_3 hzo hr_3 (fun a h1 h2 => by
    rcases (show a = o + 1 ∨ a = o + 2 ∨ a = o + 3 by omega) with rfl | rfl | rfl
    · rw [hk1]; rfl
    · rw [hk2]; rfl
    · rw [hk3]; rfl) (by omega))
theorem c_C_init (l : Launch) (G : GE) (σ : Wd) (o : Nat) (hk0 : kd o = 0) (hk1 : kd (o + 1) = 1008) (hk2 : kd (o + 2) = 1008) (hk3 : kd (o + 3) = 1256) (hk4 : kd (o + 4) = 1256) (hb : o + 5 ≤ 128) (hzo : ∀ a, o ≤ a → ∀ i, σ a i = 0) : CtN NoX l G y_C_init b_C_init 1 1 20 4 528 128 [vR o] 0 (o + 1) 0 (o + 5) σ (Mde o (o + 5) σ) := by
  refine CtN.of cm_C_init (Nat.le_refl 1) rfl ?_
  intro X hXl hXG hXN hRm C hr I E hX
  have hz0 : ∀ a, o < a → ∀ i, σ a i = 0 := fun a h => hzo a (by omega)
  have h0_0 : σ o = mks [] := mks_nil (hzo o (Nat.le_refl o))
  have hr_0 : ∀ a, a ≠ o → σ a = σ a := fun _ _ => rfl
  refine VN_aload_n (pc := 0) (z := o) C (dk k_C_init 0 rfl) rfl ?_
  refine VN_obj (pc := 1) C (dk k_C_init 1 rfl) ol_C (by decide) hRm ?_
  refine VN_aload_n (pc := 4) (z := o) C (dk k_C_init 2 rfl) rfl ?_
  refine VN_bipush (pc := 5) (n' := 8) C (dk k_C_init 3 rfl) rfl ?_
  refine VN_newI (pc := 7) (len := 8) (wn := o + 1) (wn' := o + 2) (wc' := 1) (wq' := 8) C (dk k_C_init 4 rfl) hk1 (by decide) (Or.inl (by omega)) (Nat.zero_le _) (hz0 (o + 1) (by omega)) rfl rfl rfl (hr.le (by decide) (by decide)) ?_
  refine VN_putF (pc := 9) C I (dk k_C_init 5 rfl) fo_C_9 hk0 (by decide) rfl ⟨by decide, by decide⟩ (by omega) (Nat.zero_le _) (by omega) rfl ?_
  have hz1 := zr_up (x := ((0 : Nat) : Int)) (y := 1) hz0
  have h0_1 := up_mks (x := ((0 : Nat) : Int)) h0_0
  have hr_1 := Mde.up (n := 0) (x := ((0 : Nat) : Int)) (y := 1) hr_0
  refine VN_aload_n (pc := 12) (z := o) C (dk k_C_init 6 rfl) rfl ?_
  refine VN_bipush (pc := 13) (n' := 8) C (dk k_C_init 7 rfl) rfl ?_
  refine VN_newI (pc := 15) (len := 8) (wn := o + 2) (wn' := o + 3) (wc' := 2) (wq' := 16) C (dk k_C_init 8 rfl) hk2 (by decide) (Or.inl (by omega)) (Nat.zero_le _) (hz1 (o + 2) (by omega)) rfl rfl rfl (hr.le (by decide) (by decide)) ?_
  refine VN_putF (pc := 17) C I (dk k_C_init 9 rfl) fo_C_15 hk0 (by decide) rfl ⟨by decide, by decide⟩ (by omega) (Nat.zero_le _) (by omega) rfl ?_
  have hz2 := zr_up (x := ((1 : Nat) : Int)) (y := 1) hz1
  have h0_2 := up_mks (x := ((1 : Nat) : Int)) h0_1
  have hr_2 := Mde.up (n := 0) (x := ((1 : Nat) : Int)) (y := 1) hr_1
  refine VN_aload_n (pc := 20) (z := o) C (dk k_C_init 10 rfl) rfl ?_
  refine VN_sipush (pc := 21) (n' := 256) C (dk k_C_init 11 rfl) rfl ?_
  refine VN_newI (pc := 24) (len := 256) (wn := o + 3) (wn' := o + 4) (wc' := 3) (wq' := 272) C (dk k_C_init 12 rfl) hk3 (by decide) (Or.inl (by omega)) (Nat.zero_le _) (hz2 (o + 3) (by omega)) rfl rfl rfl (hr.le (by decide) (by decide)) ?_
  refine VN_putF (pc := 26) C I (dk k_C_init 13 rfl) fo_C_18 hk0 (by decide) rfl ⟨by decide, by decide⟩ (by omega) (Nat.zero_le _) (by omega) rfl ?_
  have hz3 := zr_up (x := ((2 : Nat) : Int)) (y := 1) hz2
  have h0_3 := up_mks (x := ((2 : Nat) : Int)) h0_2
  have hr_3 := Mde.up (n := 0) (x := ((2 : Nat) : Int)) (y := 1) hr_2
  refine VN_aload_n (pc := 29) (z := o) C (dk k_C_init 14 rfl) rfl ?_
  refine VN_sipush (pc := 30) (n' := 256) C (dk k_C_init 15 rfl) rfl ?_
  refine VN_newI (pc := 33) (len := 256) (wn := o + 4) (wn' := o + 5) (wc' := 4) (wq' := 528) C (dk k_C_init 16 rfl) hk4 (by decide) (Or.inl (by omega)) (Nat.zero_le _) (hz3 (o + 4) (by omega)) rfl rfl rfl (hr.le (by decide) (by decide)) ?_
  refine VN_putF (pc := 35) C I (dk k_C_init 17 rfl) fo_C_21 hk0 (by decide) rfl ⟨by decide, by decide⟩ (by omega) (Nat.zero_le _) (by omega) rfl ?_
  have hz4 := zr_up (x := ((3 : Nat) : Int)) (y := 1) hz3
  have h0_4 := up_mks (x := ((3 : Nat) : Int)) h0_3
  have hr_4 := Mde.up (n := 0) (x := ((3 : Nat) : Int)) (y := 1) hr_3
  exact VN_ret (pc := 38) C E (Or.inl (by omega)) (fun _ => rfl) (dk k_C_init 18 rfl) (Mde.of hk0 h0_4 hzo hr_4 (fun a h1 h2 => by
    rcases (show a = o + 1 ∨ a = o + 2 ∨ a = o + 3 ∨ a = o + 4 by omega) with rfl | rfl | rfl | rfl
    · rw [hk1]; rfl
    · rw [hk2]; rfl
    · rw [hk3]; rfl
    · rw [hk4]; rfl) (by omega))
theorem c_E_init (l : Launch) (G : GE) (σ : Wd) (o : Nat) (hk0 : kd o = 1) (hk1 : kd (o + 1) = 1008) (hk2 : kd (o + 2) = 1005) (hk3 : kd (o + 3) = 1005) (hk4 : kd (o + 4) = 1108) (hk5 : kd (o + 5) = 1008) (hb : o + 6 ≤ 128) (hzo : ∀ a, o ≤ a → ∀ i, σ a i = 0) : CtN NoX l G y_E_init b_E_init 1 1 20 5 134 128 [vR o] 0 (o + 1) 0 (o + 6) σ (Mde o (o + 6) σ) := by
  refine CtN.of cm_E_init (Nat.le_refl 1) rfl ?_
  intro X hXl hXG hXN hRm C hr I E hX
  have hz0 : ∀ a, o < a → ∀ i, σ a i = 0 := fun a h => hzo a (by omega)
  have h0_0 : σ o = mks [] := mks_nil (hzo o (Nat.le_refl o))
  have hr_0 : ∀ a, a ≠ o → σ a = σ a := fun _ _ => rfl
  refine VN_aload_n (pc := 0) (z := o) C (dk k_E_init 0 rfl) rfl ?_
  refine VN_obj (pc := 1) C (dk k_E_init 1 rfl) ol_E (by decide) hRm ?_
  refine VN_aload_n (pc := 4) (z := o) C (dk k_E_init 2 rfl) rfl ?_
  refine VN_bipush (pc := 5) (n' := 8) C (dk k_E_init 3 rfl) rfl ?_
  refine VN_newI (pc := 7) (len := 8) (wn := o + 1) (wn' := o + 2) (wc' := 1) (wq' := 8) C (dk k_E_init 4 rfl) hk1 (by decide) (Or.inl (by omega)) (Nat.zero_le _) (hz0 (o + 1) (by omega)) rfl rfl rfl (hr.le (by decide) (by decide)) ?_
  refine VN_putF (pc := 9) C I (dk k_E_init 5 rfl) fo_E_9 hk0 (by decide) rfl ⟨by decide, by decide⟩ (by omega) (Nat.zero_le _) (by omega) rfl ?_
  have hz1 := zr_up (x := ((0 : Nat) : Int)) (y := 1) hz0
  have h0_1 := up_mks (x := ((0 : Nat) : Int)) h0_0
  have hr_1 := Mde.up (n := 0) (x := ((0 : Nat) : Int)) (y := 1) hr_0
  refine VN_aload_n (pc := 12) (z := o) C (dk k_E_init 6 rfl) rfl ?_
  refine VN_iconst (pc := 13) C (dk k_E_init 7 rfl) rfl ?_
  refine VN_newI (pc := 14) (len := 5) (wn := o + 2) (wn' := o + 3) (wc' := 2) (wq' := 13) C (dk k_E_init 8 rfl) hk2 (by decide) (Or.inl (by omega)) (Nat.zero_le _) (hz1 (o + 2) (by omega)) rfl rfl rfl (hr.le (by decide) (by decide)) ?_
  refine VN_putF (pc := 16) C I (dk k_E_init 9 rfl) fo_E_15 hk0 (by decide) rfl ⟨by decide, by decide⟩ (by omega) (Nat.zero_le _) (by omega) rfl ?_
  have hz2 := zr_up (x := ((1 : Nat) : Int)) (y := 1) hz1
  have h0_2 := up_mks (x := ((1 : Nat) : Int)) h0_1
  have hr_2 := Mde.up (n := 0) (x := ((1 : Nat) : Int)) (y := 1) hr_1
  refine VN_aload_n (pc := 19) (z := o) C (dk k_E_init 10 rfl) rfl ?_
  refine VN_iconst (pc := 20) C (dk k_E_init 11 rfl) rfl ?_
  refine VN_newI (pc := 21) (len := 5) (wn := o + 3) (wn' := o + 4) (wc' := 3) (wq' := 18) C (dk k_E_init 12 rfl) hk3 (by decide) (Or.inl (by omega)) (Nat.zero_le _) (hz2 (o + 3) (by omega)) rfl rfl rfl (hr.le (by decide) (by decide)) ?_
  refine VN_putF (pc := 23) C I (dk k_E_init 13 rfl) fo_E_18 hk0 (by decide) rfl ⟨by decide, by decide⟩ (by omega) (Nat.zero_le _) (by omega) rfl ?_
  have hz3 := zr_up (x := ((2 : Nat) : Int)) (y := 1) hz2
  have h0_3 := up_mks (x := ((2 : Nat) : Int)) h0_2
  have hr_3 := Mde.up (n := 0) (x := ((2 : Nat) : Int)) (y := 1) hr_2
  refine VN_aload_n (pc := 26) (z := o) C (dk k_E_init 14 rfl) rfl ?_
  refine VN_bipush (pc := 27) (n' := 108) C (dk k_E_init 15 rfl) rfl ?_
  refine VN_newI (pc := 29) (len := 108) (wn := o + 4) (wn' := o + 5) (wc' := 4) (wq' := 126) C (dk k_E_init 16 rfl) hk4 (by decide) (Or.inl (by omega)) (Nat.zero_le _) (hz3 (o + 4) (by omega)) rfl rfl rfl (hr.le (by decide) (by decide)) ?_
  refine VN_putF (pc := 31) C I (dk k_E_init 17 rfl) fo_E_21 hk0 (by decide) rfl ⟨by decide, by decide⟩ (by omega) (Nat.zero_le _) (by omega) rfl ?_
  have hz4 := zr_up (x := ((3 : Nat) : Int)) (y := 1) hz3
  have h0_4 := up_mks (x := ((3 : Nat) : Int)) h0_3
  have hr_4 := Mde.up (n := 0) (x := ((3 : Nat) : Int)) (y := 1) hr_3
  refine VN_aload_n (pc := 34) (z := o) C (dk k_E_init 18 rfl) rfl ?_
  refine VN_bipush (pc := 35) (n' := 8) C (dk k_E_init 19 rfl) rfl ?_
  refine VN_newI (pc := 37) (len := 8) (wn := o + 5) (wn' := o + 6) (wc' := 5) (wq' := 134) C (dk k_E_init 20 rfl) hk5 (by decide) (Or.inl (by omega)) (Nat.zero_le _) (hz4 (o + 5) (by omega)) rfl rfl rfl (hr.le (by decide) (by decide)) ?_
  refine VN_putF (pc := 39) C I (dk k_E_init 21 rfl) fo_E_24 hk0 (by decide) rfl ⟨by decide, by decide⟩ (by omega) (Nat.zero_le _) (by omega) rfl ?_
  have hz5 := zr_up (x := ((4 : Nat) : Int)) (y := 1) hz4
  have h0_5 := up_mks (x := ((4 : Nat) : Int)) h0_4
  have hr_5 := Mde.up (n := 0) (x := ((4 : Nat) : Int)) (y := 1) hr_4
  exact VN_ret (pc := 42) C E (Or.inl (by omega)) (fun _ => rfl) (dk k_E_init 22 rfl) (Mde.of hk0 h0_5 hzo hr_5 (fun a h1 h2 => by
    rcases (show a = o + 1 ∨ a = o + 2 ∨ a = o + 3 ∨ a = o + 4 ∨ a = o + 5 by omega) with rfl | rfl | rfl | rfl | rfl
    · rw [hk1]; rfl
    · rw [hk2]; rfl
    · rw [hk3]; rfl
    · rw [hk4]; rfl
    · rw [hk5]; rfl) (by omega))
theorem cl_M_9 : Cond.classLink "ForgoneShop$Memory" 9 "ForgoneShop$Stand" ∈ gw := gw_in (82 + 150) (by decide +kernel) rfl
def dn : Nat → List Int
  | 0 => []
  | n + 1 => (n : Int) :: dn n
def InvM (o i : Nat) (σ τ : Wd) : Prop := τ o = mks [0] ∧ τ (o + 1) = mks (dn i) ∧ (∀ a, o + 2 ≤ a → a < o + 2 + 5 * i → τ a = mks (mkl (kd a))) ∧ (∀ a, o + 2 + 5 * i ≤ a → ∀ b, τ a b = 0) ∧ ∀ a, a < o → τ a = σ a
theorem M_loop {X : KX} {l : Launch} {G : GE} {σ : Wd} {o : Nat} (hXl : xL X = l) (hXG : xG X = G) (hXN : xN X = 2) (hRm : Rm X 2 40) (C : CN X b_M_init y_M_init.cls) (hr : RN X 41 264) (I : IN X) (hk0 : kd o = 4) (hk1 : kd (o + 1) = 3000) (hks : ∀ i, i < 8 → kd (o + 2 + 5 * i) = 7 ∧ kd (o + 2 + 5 * i + 1) = 1005 ∧ kd (o + 2 + 5 * i + 2) = 1005 ∧ kd (o + 2 + 5 * i + 3) = 1008 ∧ kd (o + 2 + 5 * i + 4) = 1008) (hb : o + 42 ≤ 128)
    (hend : ∀ τ, InvM o 8 σ τ → VN X 128 0 (o + 42) 41 264 43 [some (vR o), some (vI 8)] [] τ) : ∀ (k i : Nat), i + k = 8 → ∀ τ, InvM o i σ τ → VN X 128 0 (o + 2 + 5 * i) (1 + 5 * i) (8 + 32 * i) 15 [some (vR o), some (vI (i : Int))] [] τ
  | 0, i, hi, τ, hI => by
    obtain rfl : i = 8 := by omega
    refine VN_iload_n (pc := 15) C (dk k_M_init 8 rfl) rfl ?_
    refine VN_aload_n (pc := 16) (z := o) C (dk k_M_init 9 rfl) rfl ?_
    refine VN_getr (pc := 17) C (dk k_M_init 10 rfl) fl_M_11 hk0 (by decide) rfl ⟨by decide, by decide⟩ (by omega) (Nat.zero_le _) (by rw [hI.1]; decide) rfl ?_
    refine VN_alenS (pc := 20) C (dk k_M_init 11 rfl) hk1 (by omega) (Nat.zero_le _) ?_
    refine VN_icmpge (pc := 21) C (dk k_M_init 12 rfl) 43 rfl ⟨by decide, by decide⟩ ⟨by decide, by decide⟩ (fun _ => hend τ hI) (fun h => absurd (Int.le_refl 8) h)
  | k + 1, i, hi, τ, hI => by
    obtain ⟨a1, a2, a3, a4, a5⟩ := hks i (by omega)
    obtain ⟨i1, i2, i3, i4, i5⟩ := hI
    refine VN_iload_n (pc := 15) C (dk k_M_init 8 rfl) rfl ?_
    refine VN_aload_n (pc := 16) (z := o) C (dk k_M_init 9 rfl) rfl ?_
    refine VN_getr (pc := 17) C (dk k_M_init 10 rfl) fl_M_11 hk0 (by decide) rfl ⟨by decide, by decide⟩ (by omega) (Nat.zero_le _) (by rw [i1]; decide) rfl ?_
    refine VN_alenS (pc := 20) C (dk k_M_init 11 rfl) hk1 (by omega) (Nat.zero_le _) ?_
    refine VN_icmpge (pc := 21) C (dk k_M_init 12 rfl) 43 rfl ⟨by omega, by omega⟩ ⟨by decide, by decide⟩ (fun h => absurd h (by omega)) (fun _ => ?_)
    refine VN_aload_n (pc := 24) (z := o) C (dk k_M_init 13 rfl) rfl ?_
    refine VN_getr (pc := 25) C (dk k_M_init 14 rfl) fl_M_11 hk0 (by decide) rfl ⟨by decide, by decide⟩ (by omega) (Nat.zero_le _) (by rw [i1]; decide) rfl ?_
    refine VN_iload_n (pc := 28) C (dk k_M_init 15 rfl) rfl ?_
    refine VN_new (pc := 29) (wn' := o + 2 + 5 * i + 1) (wc' := 1 + 5 * i + 1) (wq' := 8 + 32 * i + 6) C (dk k_M_init 16 rfl) nw_M_9 a1 (by decide) (Or.inl (by omega)) (Nat.zero_le _) (i4 _ (Nat.le_refl _)) rfl rfl rfl (hr.le (by omega) (by omega)) ?_
    refine VN_dupR (pc := 32) C (dk k_M_init 17 rfl) ?_
    refine VN_callI (pc := 33) (wn' := o + 2 + 5 * i + 1 + 4) (wc' := 1 + 5 * i + 1 + 4) (wq' := 8 + 32 * i + 6 + 26) C (dk k_M_init 18 rfl) li_M_15 cm_S_init rfl ii_S (c_S_init (xL X) (xG X) τ (o + 2 + 5 * i) a1 a2 a3 a4 a5 (by omega) (fun a h => i4 a h)) XiC_no (Nat.le_refl _) (show 3 ≤ 8 by decide) (hRm.mono (by decide) (by decide)) rfl rfl rfl (hr.le (by omega) (by omega)) (Or.inl (by omega)) (by omega) (fun τ' q => ?_)
    obtain ⟨q1, q2⟩ := q
    refine VN_aast (pc := 36) C (dk k_M_init 19 rfl) hk1 a1 (by omega) (by omega) (by rw [Int.toNat_natCast]) (by omega) (by omega) (Nat.zero_le _) (by omega) ?_
    refine VN_iinc (pc := 37) C (dk k_M_init 20 rfl) (by rw [hXN]; decide) rfl ?_
    refine VN_goto (pc := 40) C (dk k_M_init 21 rfl) 15 rfl ?_
    have hI2 : InvM o (i + 1) σ (up τ' (o + 1) (i : Int) 1) := by
      refine ⟨?_, ?_, fun a h1 h2 => ?_, fun a h1 b => ?_, fun a h1 => ?_⟩
      · rw [up_row _ _ _ (by omega), q2 o (by omega)]; exact i1
      · exact up_mks ((q2 (o + 1) (by omega)).trans i2)
      · rw [up_row _ _ _ (by omega)]
        by_cases h3 : a < o + 2 + 5 * i
        · rw [q2 a (by omega)]; exact i3 a h1 h3
        · exact q1 a (by omega) (by omega)
      · rw [up_row _ _ _ (by omega), q2 a (by omega)]; exact i4 a (by omega) b
      · rw [up_row _ _ _ (by omega), q2 a (by omega)]; exact i5 a h1
    have K := M_loop hXl hXG hXN hRm C hr I hk0 hk1 hks hb hend k (i + 1) (by omega) _ hI2
    exact K
theorem c_M_init (l : Launch) (G : GE) (σ : Wd) (o : Nat) (hk0 : kd o = 4) (hk1 : kd (o + 1) = 3000) (hks : ∀ i, i < 8 → kd (o + 2 + 5 * i) = 7 ∧ kd (o + 2 + 5 * i + 1) = 1005 ∧ kd (o + 2 + 5 * i + 2) = 1005 ∧ kd (o + 2 + 5 * i + 3) = 1008 ∧ kd (o + 2 + 5 * i + 4) = 1008) (hb : o + 42 ≤ 128) (hzo : ∀ a, o ≤ a → ∀ i, σ a i = 0) : CtN AO l G y_M_init b_M_init 2 2 40 41 264 128 [vR o] 0 (o + 1) 0 (o + 42) σ (Mde o (o + 42) σ) := by
  refine CtN.of cm_M_init (show 1 ≤ 2 by decide) rfl ?_
  intro X hXl hXG hXN hRm C hr I E hX
  refine VN_aload_n (pc := 0) (z := o) C (dk k_M_init 0 rfl) rfl ?_
  refine VN_obj (pc := 1) C (dk k_M_init 1 rfl) ol_M (by decide) (hRm.mono (by decide) (by decide)) ?_
  refine VN_aload_n (pc := 4) (z := o) C (dk k_M_init 2 rfl) rfl ?_
  refine VN_bipush (pc := 5) (n' := 8) C (dk k_M_init 3 rfl) rfl ?_
  refine VN_newS (pc := 7) (wn' := o + 2) (wc' := 1) (wq' := 8) C hX (dk k_M_init 4 rfl) cl_M_9 hk1 (Or.inl (by omega)) (Nat.zero_le _) (hzo _ (by omega)) rfl rfl rfl (hr.le (by decide) (by decide)) ?_
  refine VN_putF (pc := 10) C I (dk k_M_init 5 rfl) fo_M_11 hk0 (by decide) rfl ⟨by decide, by decide⟩ (by omega) (Nat.zero_le _) (by omega) rfl ?_
  refine VN_iconst (pc := 13) C (dk k_M_init 6 rfl) rfl ?_
  refine VN_istore_n (pc := 14) C (dk k_M_init 7 rfl) (by rw [hXN]; decide) ?_
  have h0 : σ o = mks [] := mks_nil (hzo o (Nat.le_refl o))
  refine M_loop (σ := σ) (o := o) hXl hXG hXN hRm C hr I hk0 hk1 hks hb (fun τ q => ?_) 8 0 rfl _ ⟨up_mks h0, ?_, fun a h1 h2 => absurd h2 (by omega), fun a h1 b => ?_, fun a h1 => up_row _ _ _ (by omega)⟩
  · obtain ⟨i1, i2, i3, i4, i5⟩ := q
    refine VN_ret (pc := 43) C E (Or.inl (by omega)) (fun _ => rfl) (dk k_M_init 22 rfl) ⟨fun a h1 h2 => ?_, fun a h => ?_⟩
    · by_cases h3 : a = o
      · rw [h3, hk0]; exact i1
      · by_cases h4 : a = o + 1
        · rw [h4, hk1]; exact i2
        · exact i3 a (by omega) (by omega)
    · by_cases h3 : a < o
      · exact i5 a h3
      · funext b; rw [i4 a (by omega) b, hzo a (by omega) b]
  · rw [up_row _ _ _ (by omega)]; exact mks_nil (hzo _ (by omega))
  · rw [up_row _ _ _ (by omega)]; exact hzo a (by omega) b
def ins (r : Int → Int) (j x : Int) : Int → Int := fun b => if b = j then x else r b
/-- the shop's own row is r, the objects from 1 to n are made, the others not yet -/
def Sfn (n : Nat) (r : Int → Int) (τ : Wd) : Prop := τ 0 = r ∧ (∀ a, 1 ≤ a → a < n → τ a = mks (mkl (kd a))) ∧ ∀ a, n ≤ a → ∀ i, τ a i = 0
theorem Sfn.call {n n2 : Nat} {r : Int → Int} {τ τ' : Wd} (h : Sfn n r τ) (hn : 1 ≤ n) (q : Mde n n2 τ τ') (hn2 : n ≤ n2) : Sfn n2 r τ' := by
  obtain ⟨h1, h2, h3⟩ := h
  refine ⟨(q.2 0 (by omega)).trans h1, fun a g1 g2 => ?_, fun a g i => ?_⟩
  · by_cases h : a < n
    · rw [q.2 a (by omega)]; exact h2 a g1 h
    · exact q.1 a (by omega) g2
  · rw [q.2 a (by omega)]; exact h3 a (by omega) i
theorem Sfn.put {n : Nat} {r : Int → Int} {τ : Wd} (j x : Int) (h : Sfn n r τ) (hn : 1 ≤ n) : Sfn n (ins r j x) (up τ 0 j x) := by
  obtain ⟨h1, h2, h3⟩ := h
  refine ⟨?_, fun a g1 g2 => ?_, fun a g i => ?_⟩
  · funext b
    unfold up ins
    by_cases hb : b = j
    · rw [if_pos ⟨rfl, hb⟩, if_pos hb]
    · rw [if_neg (fun q => hb q.2), if_neg hb, h1]
  · rw [up_row _ _ _ (by omega)]; exact h2 a g1 g2
  · rw [up_ne1 _ _ _ _ (by omega)]; exact h3 a g i

def rowF : Int → Int := (ins (ins (ins (ins (ins (ins (ins (ins (ins (ins (ins (mks []) 0 1) 1 1) 2 5) 3 12) 4 1) 5 1) 6 1) 7 1) 8 1) 9 1) 10 1)
theorem F_first {X : KX} {σ : Wd} (hRm : Rm X 5 117) (C : CN X b_F_init y_F_init.cls) (hr : RN X 127 1624) (I : IN X) (hX : XiA X AO) (s0 : Sfn 1 (mks []) σ) (k : ∀ τ, Sfn 128 rowF τ → VN X 128 0 128 127 1624 125 (ents 2 [vR 0]) [] τ) : VN X 128 0 1 0 0 0 (ents 2 [vR 0]) [] σ := by
  refine VN_aload_n (pc := 0) (z := 0) C (dk k_F_init 0 rfl) rfl ?_
  refine VN_obj (pc := 1) C (dk k_F_init 1 rfl) ol_F (by decide) (hRm.mono (by decide) (by decide)) ?_
  refine VN_aload_n (pc := 4) (z := 0) C (dk k_F_init 2 rfl) rfl ?_
  refine VN_new (pc := 5) (wn := 1) (wn' := 2) (wc' := 1) (wq' := 2) C (dk k_F_init 3 rfl) nw_F_7 kq_1 (by decide) (Or.inl (by decide)) (Nat.zero_le _) (s0.2.2 1 (Nat.le_refl _)) rfl rfl rfl (hr.le (by decide) (by decide)) ?_
  refine VN_dupR (pc := 8) C (dk k_F_init 4 rfl) ?_
  refine VN_callI (pc := 9) (wn' := 3) (wc' := 2) (wq' := 202) C (dk k_F_init 5 rfl) li_F_9 cm_L_init rfl ii_L (c_L_init (xL X) (xG X) σ 1 kq_1 kq_2 (by decide) (fun a h => s0.2.2 a h)) XiC_no (Nat.le_refl _) (show 2 ≤ 8 by decide) (hRm.mono (by decide) (by decide)) rfl rfl rfl (hr.le (by decide) (by decide)) (Or.inl (by decide)) (by decide) (fun τ0 q0 => ?_)
  have s1 := s0.call (by decide) q0 (by decide)
  refine VN_putF (pc := 12) C I (dk k_F_init 6 rfl) fo_F_10 kq_0 (by decide) rfl ⟨by decide, by decide⟩ (by decide) (Nat.zero_le _) (by decide) rfl ?_
  have s2 := s1.put ((0 : Nat) : Int) 1 (by decide)
  generalize hτ2 : up τ0 0 ((0 : Nat) : Int) 1 = τ1 at s2 ⊢
  refine VN_aload_n (pc := 15) (z := 0) C (dk k_F_init 7 rfl) rfl ?_
  refine VN_new (pc := 16) (wn := 3) (wn' := 4) (wc' := 3) (wq' := 204) C (dk k_F_init 8 rfl) nw_F_16 kq_3 (by decide) (Or.inl (by decide)) (Nat.zero_le _) (s2.2.2 3 (Nat.le_refl _)) rfl rfl rfl (hr.le (by decide) (by decide)) ?_
  refine VN_dupR (pc := 19) C (dk k_F_init 9 rfl) ?_
  refine VN_callI (pc := 20) (wn' := 5) (wc' := 4) (wq' := 208) C (dk k_F_init 10 rfl) li_F_18 cm_R_init rfl ii_R (c_R_init (xL X) (xG X) τ1 3 kq_3 kq_4 (by decide) (fun a h => s2.2.2 a h)) XiC_no (Nat.le_refl _) (show 2 ≤ 8 by decide) (hRm.mono (by decide) (by decide)) rfl rfl rfl (hr.le (by decide) (by decide)) (Or.inl (by decide)) (by decide) (fun τ2 q2 => ?_)
  have s3 := s2.call (by decide) q2 (by decide)
  refine VN_putF (pc := 23) C I (dk k_F_init 11 rfl) fo_F_19 kq_0 (by decide) rfl ⟨by decide, by decide⟩ (by decide) (Nat.zero_le _) (by decide) rfl ?_
  have s4 := s3.put ((1 : Nat) : Int) 1 (by decide)
  generalize hτ4 : up τ2 0 ((1 : Nat) : Int) 1 = τ3 at s4 ⊢
  refine VN_aload_n (pc := 26) (z := 0) C (dk k_F_init 12 rfl) rfl ?_
  refine VN_new (pc := 27) (wn := 5) (wn' := 6) (wc' := 5) (wq' := 219) C (dk k_F_init 13 rfl) nw_F_23 kq_5 (by decide) (Or.inl (by decide)) (Nat.zero_le _) (s4.2.2 5 (Nat.le_refl _)) rfl rfl rfl (hr.le (by decide) (by decide)) ?_
  refine VN_dupR (pc := 30) C (dk k_F_init 14 rfl) ?_
  refine VN_callI (pc := 31) (wn' := 12) (wc' := 11) (wq' := 268) C (dk k_F_init 15 rfl) li_F_25 cm_P_init rfl ii_P (c_P_init (xL X) (xG X) τ3 5 kq_5 kq_6 kq_7 kq_8 kq_9 kq_10 kq_11 (by decide) (fun a h => s4.2.2 a h)) XiC_no (Nat.le_refl _) (show 2 ≤ 8 by decide) (hRm.mono (by decide) (by decide)) rfl rfl rfl (hr.le (by decide) (by decide)) (Or.inl (by decide)) (by decide) (fun τ4 q4 => ?_)
  have s5 := s4.call (by decide) q4 (by decide)
  refine VN_putm (pc := 34) C (dk k_F_init 16 rfl) fl_F_26 fw_8_2 kq_0 (by decide) rfl (by decide) (Nat.zero_le _) (by decide) (by decide) (by decide) ?_
  have s6 := s5.put ((2 : Nat) : Int) 5 (by decide)
  generalize hτ6 : up τ4 0 ((2 : Nat) : Int) ((5 : Nat) : Int) = τ5 at s6 ⊢
  refine VN_aload_n (pc := 37) (z := 0) C (dk k_F_init 17 rfl) rfl ?_
  refine VN_new (pc := 38) (wn := 12) (wn' := 13) (wc' := 12) (wq' := 279) C (dk k_F_init 18 rfl) nw_F_23 kq_12 (by decide) (Or.inl (by decide)) (Nat.zero_le _) (s6.2.2 12 (Nat.le_refl _)) rfl rfl rfl (hr.le (by decide) (by decide)) ?_
  refine VN_dupR (pc := 41) C (dk k_F_init 19 rfl) ?_
  refine VN_callI (pc := 42) (wn' := 19) (wc' := 18) (wq' := 328) C (dk k_F_init 20 rfl) li_F_25 cm_P_init rfl ii_P (c_P_init (xL X) (xG X) τ5 12 kq_12 kq_13 kq_14 kq_15 kq_16 kq_17 kq_18 (by decide) (fun a h => s6.2.2 a h)) XiC_no (Nat.le_refl _) (show 2 ≤ 8 by decide) (hRm.mono (by decide) (by decide)) rfl rfl rfl (hr.le (by decide) (by decide)) (Or.inl (by decide)) (by decide) (fun τ6 q6 => ?_)
  have s7 := s6.call (by decide) q6 (by decide)
  refine VN_putm (pc := 45) C (dk k_F_init 21 rfl) fl_F_30 fw_8_3 kq_0 (by decide) rfl (by decide) (Nat.zero_le _) (by decide) (by decide) (by decide) ?_
  have s8 := s7.put ((3 : Nat) : Int) 12 (by decide)
  generalize hτ8 : up τ6 0 ((3 : Nat) : Int) ((12 : Nat) : Int) = τ7 at s8 ⊢
  refine VN_aload_n (pc := 48) (z := 0) C (dk k_F_init 22 rfl) rfl ?_
  refine VN_new (pc := 49) (wn := 19) (wn' := 20) (wc' := 19) (wq' := 334) C (dk k_F_init 23 rfl) nw_F_33 kq_19 (by decide) (Or.inl (by decide)) (Nat.zero_le _) (s8.2.2 19 (Nat.le_refl _)) rfl rfl rfl (hr.le (by decide) (by decide)) ?_
  refine VN_dupR (pc := 52) C (dk k_F_init 24 rfl) ?_
  refine VN_callI (pc := 53) (wn' := 24) (wc' := 23) (wq' := 360) C (dk k_F_init 25 rfl) li_F_35 cm_S_init rfl ii_S (c_S_init (xL X) (xG X) τ7 19 kq_19 kq_20 kq_21 kq_22 kq_23 (by decide) (fun a h => s8.2.2 a h)) XiC_no (Nat.le_refl _) (show 2 ≤ 8 by decide) (hRm.mono (by decide) (by decide)) rfl rfl rfl (hr.le (by decide) (by decide)) (Or.inl (by decide)) (by decide) (fun τ8 q8 => ?_)
  have s9 := s8.call (by decide) q8 (by decide)
  refine VN_putF (pc := 56) C I (dk k_F_init 26 rfl) fo_F_36 kq_0 (by decide) rfl ⟨by decide, by decide⟩ (by decide) (Nat.zero_le _) (by decide) rfl ?_
  have s10 := s9.put ((4 : Nat) : Int) 1 (by decide)
  generalize hτ10 : up τ8 0 ((4 : Nat) : Int) 1 = τ9 at s10 ⊢
  refine VN_aload_n (pc := 59) (z := 0) C (dk k_F_init 27 rfl) rfl ?_
  refine VN_new (pc := 60) (wn := 24) (wn' := 25) (wc' := 24) (wq' := 366) C (dk k_F_init 28 rfl) nw_F_33 kq_24 (by decide) (Or.inl (by decide)) (Nat.zero_le _) (s10.2.2 24 (Nat.le_refl _)) rfl rfl rfl (hr.le (by decide) (by decide)) ?_
  refine VN_dupR (pc := 63) C (dk k_F_init 29 rfl) ?_
  refine VN_callI (pc := 64) (wn' := 29) (wc' := 28) (wq' := 392) C (dk k_F_init 30 rfl) li_F_35 cm_S_init rfl ii_S (c_S_init (xL X) (xG X) τ9 24 kq_24 kq_25 kq_26 kq_27 kq_28 (by decide) (fun a h => s10.2.2 a h)) XiC_no (Nat.le_refl _) (show 2 ≤ 8 by decide) (hRm.mono (by decide) (by decide)) rfl rfl rfl (hr.le (by decide) (by decide)) (Or.inl (by decide)) (by decide) (fun τ10 q10 => ?_)
  have s11 := s10.call (by decide) q10 (by decide)
  refine VN_putF (pc := 67) C I (dk k_F_init 31 rfl) fo_F_40 kq_0 (by decide) rfl ⟨by decide, by decide⟩ (by decide) (Nat.zero_le _) (by decide) rfl ?_
  have s12 := s11.put ((5 : Nat) : Int) 1 (by decide)
  generalize hτ12 : up τ10 0 ((5 : Nat) : Int) 1 = τ11 at s12 ⊢
  refine VN_aload_n (pc := 70) (z := 0) C (dk k_F_init 32 rfl) rfl ?_
  refine VN_new (pc := 71) (wn := 29) (wn' := 30) (wc' := 29) (wq' := 395) C (dk k_F_init 33 rfl) nw_F_43 kq_29 (by decide) (Or.inl (by decide)) (Nat.zero_le _) (s12.2.2 29 (Nat.le_refl _)) rfl rfl rfl (hr.le (by decide) (by decide)) ?_
  refine VN_dupR (pc := 74) C (dk k_F_init 34 rfl) ?_
  refine VN_callI (pc := 75) (wn' := 71) (wc' := 70) (wq' := 659) C (dk k_F_init 35 rfl) li_F_45 cm_M_init rfl ii_M (c_M_init (xL X) (xG X) τ11 29 kq_29 kq_30 (by decide +kernel) (by decide) (fun a h => s12.2.2 a h)) (XiC_AO hX) (Nat.le_refl _) (show 2 ≤ 8 by decide) (hRm.mono (by decide) (by decide)) rfl rfl rfl (hr.le (by decide) (by decide)) (Or.inl (by decide)) (by decide) (fun τ12 q12 => ?_)
  have s13 := s12.call (by decide) q12 (by decide)
  refine VN_putF (pc := 78) C I (dk k_F_init 36 rfl) fo_F_46 kq_0 (by decide) rfl ⟨by decide, by decide⟩ (by decide) (Nat.zero_le _) (by decide) rfl ?_
  have s14 := s13.put ((6 : Nat) : Int) 1 (by decide)
  generalize hτ14 : up τ12 0 ((6 : Nat) : Int) 1 = τ13 at s14 ⊢
  refine VN_aload_n (pc := 81) (z := 0) C (dk k_F_init 37 rfl) rfl ?_
  refine VN_new (pc := 82) (wn := 71) (wn' := 72) (wc' := 71) (wq' := 662) C (dk k_F_init 38 rfl) nw_F_43 kq_71 (by decide) (Or.inl (by decide)) (Nat.zero_le _) (s14.2.2 71 (Nat.le_refl _)) rfl rfl rfl (hr.le (by decide) (by decide)) ?_
  refine VN_dupR (pc := 85) C (dk k_F_init 39 rfl) ?_
  refine VN_callI (pc := 86) (wn' := 113) (wc' := 112) (wq' := 926) C (dk k_F_init 40 rfl) li_F_45 cm_M_init rfl ii_M (c_M_init (xL X) (xG X) τ13 71 kq_71 kq_72 (by decide +kernel) (by decide) (fun a h => s14.2.2 a h)) (XiC_AO hX) (Nat.le_refl _) (show 2 ≤ 8 by decide) (hRm.mono (by decide) (by decide)) rfl rfl rfl (hr.le (by decide) (by decide)) (Or.inl (by decide)) (by decide) (fun τ14 q14 => ?_)
  have s15 := s14.call (by decide) q14 (by decide)
  refine VN_putF (pc := 89) C I (dk k_F_init 41 rfl) fo_F_50 kq_0 (by decide) rfl ⟨by decide, by decide⟩ (by decide) (Nat.zero_le _) (by decide) rfl ?_
  have s16 := s15.put ((7 : Nat) : Int) 1 (by decide)
  generalize hτ16 : up τ14 0 ((7 : Nat) : Int) 1 = τ15 at s16 ⊢
  refine VN_aload_n (pc := 92) (z := 0) C (dk k_F_init 42 rfl) rfl ?_
  refine VN_new (pc := 93) (wn := 113) (wn' := 114) (wc' := 113) (wq' := 930) C (dk k_F_init 43 rfl) nw_F_53 kq_113 (by decide) (Or.inl (by decide)) (Nat.zero_le _) (s16.2.2 113 (Nat.le_refl _)) rfl rfl rfl (hr.le (by decide) (by decide)) ?_
  refine VN_dupR (pc := 96) C (dk k_F_init 44 rfl) ?_
  refine VN_callI (pc := 97) (wn' := 117) (wc' := 116) (wq' := 948) C (dk k_F_init 45 rfl) li_F_55 cm_K_init rfl ii_K (c_K_init (xL X) (xG X) τ15 113 kq_113 kq_114 kq_115 kq_116 (by decide) (fun a h => s16.2.2 a h)) XiC_no (Nat.le_refl _) (show 2 ≤ 8 by decide) (hRm.mono (by decide) (by decide)) rfl rfl rfl (hr.le (by decide) (by decide)) (Or.inl (by decide)) (by decide) (fun τ16 q16 => ?_)
  have s17 := s16.call (by decide) q16 (by decide)
  refine VN_putF (pc := 100) C I (dk k_F_init 46 rfl) fo_F_56 kq_0 (by decide) rfl ⟨by decide, by decide⟩ (by decide) (Nat.zero_le _) (by decide) rfl ?_
  have s18 := s17.put ((8 : Nat) : Int) 1 (by decide)
  generalize hτ18 : up τ16 0 ((8 : Nat) : Int) 1 = τ17 at s18 ⊢
  refine VN_aload_n (pc := 103) (z := 0) C (dk k_F_init 47 rfl) rfl ?_
  refine VN_new (pc := 104) (wn := 117) (wn' := 118) (wc' := 117) (wq' := 954) C (dk k_F_init 48 rfl) nw_F_60 kq_117 (by decide) (Or.inl (by decide)) (Nat.zero_le _) (s18.2.2 117 (Nat.le_refl _)) rfl rfl rfl (hr.le (by decide) (by decide)) ?_
  refine VN_dupR (pc := 107) C (dk k_F_init 49 rfl) ?_
  refine VN_callI (pc := 108) (wn' := 122) (wc' := 121) (wq' := 1482) C (dk k_F_init 50 rfl) li_F_62 cm_C_init rfl ii_C (c_C_init (xL X) (xG X) τ17 117 kq_117 kq_118 kq_119 kq_120 kq_121 (by decide) (fun a h => s18.2.2 a h)) XiC_no (Nat.le_refl _) (show 2 ≤ 8 by decide) (hRm.mono (by decide) (by decide)) rfl rfl rfl (hr.le (by decide) (by decide)) (Or.inl (by decide)) (by decide) (fun τ18 q18 => ?_)
  have s19 := s18.call (by decide) q18 (by decide)
  refine VN_putF (pc := 111) C I (dk k_F_init 51 rfl) fo_F_63 kq_0 (by decide) rfl ⟨by decide, by decide⟩ (by decide) (Nat.zero_le _) (by decide) rfl ?_
  have s20 := s19.put ((9 : Nat) : Int) 1 (by decide)
  generalize hτ20 : up τ18 0 ((9 : Nat) : Int) 1 = τ19 at s20 ⊢
  refine VN_aload_n (pc := 114) (z := 0) C (dk k_F_init 52 rfl) rfl ?_
  refine VN_new (pc := 115) (wn := 122) (wn' := 123) (wc' := 122) (wq' := 1490) C (dk k_F_init 53 rfl) nw_F_67 kq_122 (by decide) (Or.inl (by decide)) (Nat.zero_le _) (s20.2.2 122 (Nat.le_refl _)) rfl rfl rfl (hr.le (by decide) (by decide)) ?_
  refine VN_dupR (pc := 118) C (dk k_F_init 54 rfl) ?_
  refine VN_callI (pc := 119) (wn' := 128) (wc' := 127) (wq' := 1624) C (dk k_F_init 55 rfl) li_F_69 cm_E_init rfl ii_E (c_E_init (xL X) (xG X) τ19 122 kq_122 kq_123 kq_124 kq_125 kq_126 kq_127 (by decide) (fun a h => s20.2.2 a h)) XiC_no (Nat.le_refl _) (show 2 ≤ 8 by decide) (hRm.mono (by decide) (by decide)) rfl rfl rfl (hr.le (by decide) (by decide)) (Or.inl (by decide)) (by decide) (fun τ20 q20 => ?_)
  have s21 := s20.call (by decide) q20 (by decide)
  refine VN_putF (pc := 122) C I (dk k_F_init 56 rfl) fo_F_70 kq_0 (by decide) rfl ⟨by decide, by decide⟩ (by decide) (Nat.zero_le _) (by decide) rfl ?_
  have s22 := s21.put ((10 : Nat) : Int) 1 (by decide)
  generalize hτ22 : up τ20 0 ((10 : Nat) : Int) 1 = τ21 at s22 ⊢
  exact k _ s22
