/-- between the steps of Euclid, from any start -/
def euJ (a b i x y : Int) : Prop := (i = 0 ∧ x = a ∧ y = b) ∨ (1 ≤ i ∧ euI a b i x y)
theorem euJ_s {a b i x y : Int} (ha : 0 ≤ a) (hb : 0 ≤ b) (ha1 : a < 34359738368) (hb1 : b < 34359738368) (h : euJ a b i x y) (hy : y ≠ 0) (hi : i < 100) : euJ a b (i + 1) y (x % y) := by
  rcases h with ⟨rfl, rfl, rfl⟩ | ⟨h1, h⟩
  · refine Or.inr ⟨by omega, by omega, by omega, by omega, Int.emod_nonneg _ hy, by omega, ?_, ?_, fun _ => ⟨Int.emod_lt_of_pos _ (by omega), ?_⟩⟩
    · have := Int.emod_lt_of_pos x (show 0 < y by omega); omega
    · rw [Int.emod_def, Int.gcd_sub_mul_left_right, Int.gcd_comm]
    · show y * (x % y) * 2 ^ 0 ≤ x * y
      rw [Int.pow_zero, Int.mul_one, Int.mul_comm x y]
      have : x % y ≤ x := by
        have h3 := Int.emod_add_mul_ediv x y
        have : 0 ≤ y * (x / y) := Int.mul_nonneg (by omega) (Int.ediv_nonneg (by omega) (by omega))
        omega
      exact Int.mul_le_mul_of_nonneg_left this (by omega)
  · have ⟨e1, e2, e3, e4, e5, e6, e7, e8⟩ := h
    have y0 : 0 < y := by omega
    have m0 : 0 ≤ x % y := Int.emod_nonneg x hy
    have m1 : x % y < y := Int.emod_lt_of_pos x y0
    refine Or.inr ⟨by omega, by omega, by omega, y0, m0, e6, by omega, ?_, fun _ => ⟨m1, ?_⟩⟩
    · rw [← e7, Int.emod_def, Int.gcd_sub_mul_left_right, Int.gcd_comm]
    · obtain ⟨f1, f2⟩ := e8 h1
      have h2 := eu_half y0 f1
      have e : (i + 1 - 1).toNat = (i - 1).toNat + 1 := by omega
      rw [e, Int.pow_succ]
      have hp : (0 : Int) ≤ 2 ^ (i - 1).toNat := Int.pow_nonneg (by omega)
      calc y * (x % y) * (2 ^ (i - 1).toNat * 2) = (y * (x % y) * 2) * 2 ^ (i - 1).toNat := by rw [Int.mul_comm (2 ^ (i - 1).toNat) 2, ← Int.mul_assoc]
        _ ≤ (x * y) * 2 ^ (i - 1).toNat := Int.mul_le_mul_of_nonneg_right h2 hp
        _ ≤ a * b := f2
theorem euJ_b {a b i x y : Int} (ha : 0 ≤ a) (hb : 0 ≤ b) (ha1 : a < 34359738368) (hb1 : b < 34359738368) (h : euJ a b i x y) : 0 ≤ i ∧ i ≤ 100 ∧ 0 ≤ x ∧ 0 ≤ y ∧ x < 4611686018427387904 ∧ y < 4611686018427387904 ∧ Int.gcd x y = Int.gcd a b := by
  rcases h with ⟨rfl, rfl, rfl⟩ | ⟨h1, e1, e2, e3, e4, e5, e6, e7, e8⟩
  · exact ⟨by omega, by omega, ha, hb, by omega, by omega, rfl⟩
  · exact ⟨by omega, by omega, by omega, by omega, by omega, by omega, e7⟩

set_option maxHeartbeats 1000000 in
set_option maxRecDepth 20000 in
theorem c_cd (l : Launch) (G : GE) (σ : Wd) (a b : Int) (ha : 0 ≤ a) (hb : 0 ≤ b) (ha1 : a < 34359738368) (hb1 : b < 34359738368) : Ct l G y_F_commonDivisor b_F_commonDivisor 11 (some (.long)) 0 0 [vL a, vL b] σ (Dt (some (vL (Int.gcd a b : Nat))) σ) := by
  refine Ct.of cm_F_commonDivisor (Nat.le_of_ble_eq_true rfl) ?_
  intro X hXl hXG hXN hRm C E
  subst hXl; subst hXG
  show V X 0 [some (vL a), none, some (vL b), none, none, none, none, none, none, none, none] [] σ
  refine V_R (fun hR => ?_)
  refine V_lload_n (pc := 0) C (dk k_F_commonDivisor 0 rfl) rfl ?_
  refine V_lstore (pc := 1) C (dk k_F_commonDivisor 1 rfl) (by rw [hXN]; decide) ?_
  dsimp only [lst, lstL, lz, kill, Fin.val, Nat.reduceAdd]
  refine V_lload_n (pc := 3) C (dk k_F_commonDivisor 2 rfl) rfl ?_
  refine V_lstore (pc := 4) C (dk k_F_commonDivisor 3 rfl) (by rw [hXN]; decide) ?_
  dsimp only [lst, lstL, lz, kill, Fin.val, Nat.reduceAdd]
  refine V_iconst (pc := 6) C (dk k_F_commonDivisor 4 rfl) rfl ?_
  refine V_istore (pc := 7) C (dk k_F_commonDivisor 5 rfl) (by rw [hXN]; decide) ?_
  dsimp only [lst, lstL, lz, kill, Fin.val, Nat.reduceAdd]
  refine V_eq (V_loop (fun q : Int × (Int × Int) => euJ a b q.1 q.2.1 q.2.2) (fun q => [some (vL a), none, some (vL b), none, some (vL q.2.1), none, some (vL q.2.2), none, some (vI q.1), none, none]) (fun _ => σ) (fun q => (100 - q.1).toNat) (fun q hq ih => ?_) (0, (a, b)) (Or.inl ⟨rfl, rfl, rfl⟩)) rfl rfl rfl
  obtain ⟨i, x, y⟩ := q
  dsimp only at *
  have ⟨g1, g2, g3, g4, g5, g6, g7⟩ := euJ_b ha hb ha1 hb1 hq
  refine V_iload (pc := 9) C (dk k_F_commonDivisor 6 rfl) rfl ?_
  refine V_bipush (pc := 11) (n' := 100) C (dk k_F_commonDivisor 7 rfl) rfl ?_
  refine V_icmpge (pc := 13) C (dk k_F_commonDivisor 8 rfl) 44 rfl (by first | exact hR _ _ | with_reducible assumption | exact ⟨by omega, by omega⟩) (by first | exact hR _ _ | with_reducible assumption | exact ⟨by omega, by omega⟩) (fun h1 => ?_) (fun h1 => ?_)
  · skip
    refine V_lload (pc := 44) C (dk k_F_commonDivisor 23 rfl) rfl ?_
    refine V_lret (pc := 46) C E (dk k_F_commonDivisor 24 rfl) ?_
    have hab : a * b ≤ 34359738368 * 34359738368 := Int.mul_le_mul (by omega) (by omega) hb (by omega)
    have hi100 : i = 100 → y = 0 := fun q => by subst q; rcases hq with ⟨h, -⟩ | ⟨-, h⟩; exact absurd h (by decide); exact euI_end (by omega) h
    obtain rfl : y = 0 := by omega
    refine ⟨?_, rfl⟩
    rw [← g7, Int.gcd_zero_right]
    congr 2
    omega
  · skip
    refine V_lload (pc := 16) C (dk k_F_commonDivisor 9 rfl) rfl ?_
    refine V_lconst (pc := 18) (n' := 0) C (dk k_F_commonDivisor 10 rfl) rfl ?_
    refine V_lcmp (pc := 19) C (dk k_F_commonDivisor 11 rfl) ⟨by omega, by omega⟩ ⟨by omega, by omega⟩ ?_
    refine V_ifeqC (pc := 20) C (dk k_F_commonDivisor 12 rfl) 44 rfl  (fun h2 => ?_) (fun h2 => ?_)
    · skip
      refine V_lload (pc := 44) C (dk k_F_commonDivisor 23 rfl) rfl ?_
      refine V_lret (pc := 46) C E (dk k_F_commonDivisor 24 rfl) ?_
      have hab : a * b ≤ 34359738368 * 34359738368 := Int.mul_le_mul (by omega) (by omega) hb (by omega)
      have hi100 : i = 100 → y = 0 := fun q => by subst q; rcases hq with ⟨h, -⟩ | ⟨-, h⟩; exact absurd h (by decide); exact euI_end (by omega) h
      obtain rfl : y = 0 := by omega
      refine ⟨?_, rfl⟩
      rw [← g7, Int.gcd_zero_right]
      congr 2
      omega
    · skip
      refine V_lload (pc := 23) C (dk k_F_commonDivisor 13 rfl) rfl ?_
      refine V_lload (pc := 25) C (dk k_F_commonDivisor 14 rfl) rfl ?_
      refine V_lrem (pc := 27) C (dk k_F_commonDivisor 15 rfl) ⟨by omega, by omega⟩ ⟨by omega, by omega⟩ (by omega) (by omega) ?_
      refine V_lstore (pc := 28) C (dk k_F_commonDivisor 16 rfl) (by rw [hXN]; decide) ?_
      dsimp only [lst, lstL, lz, kill, Fin.val, Nat.reduceAdd]
      refine V_lload (pc := 30) C (dk k_F_commonDivisor 17 rfl) rfl ?_
      refine V_lstore (pc := 32) C (dk k_F_commonDivisor 18 rfl) (by rw [hXN]; decide) ?_
      dsimp only [lst, lstL, lz, kill, Fin.val, Nat.reduceAdd]
      refine V_lload (pc := 34) C (dk k_F_commonDivisor 19 rfl) rfl ?_
      refine V_lstore (pc := 36) C (dk k_F_commonDivisor 20 rfl) (by rw [hXN]; decide) ?_
      dsimp only [lst, lstL, lz, kill, Fin.val, Nat.reduceAdd]
      refine V_iinc (pc := 38) C (dk k_F_commonDivisor 21 rfl) (by rw [hXN]; decide) rfl ?_
      dsimp only [lst, lstL, lz, kill, Fin.val, Nat.reduceAdd]
      refine V_goto (pc := 41) C (dk k_F_commonDivisor 22 rfl) 9 rfl ?_
      refine V_fg 9 ?_
      dsimp only [fg]
      exact ih (i + 1, (y, x % y)) (euJ_s ha hb ha1 hb1 hq (by omega) (by omega)) (by dsimp only; omega)

/-- above (0) or below, in lowest terms -/
def lp (a b k : Int) : Int := if k = 0 then a / (Int.gcd a b : Nat) else b / (Int.gcd a b : Nat)

def i_F_lowestPart : List (Nat × (Instr × Nat)) := [(0, (.lload_n 0, 1)), (1, (.lload_n 2, 1)), (2, (.invokestatic 294, 3)), (5, (.lstore 5, 2)), (7, (.lload 5, 2)), (9, (.lconst 0, 1)), (10, (.lcmp, 1)), (11, (.ifCond .ne 5, 3)), (14, (.iconst 0, 1)), (15, (.ireturn, 1)), (16, (.iload 4, 2)), (18, (.ifCond .ne 7, 3)), (21, (.lload_n 0, 1)), (22, (.goto 4, 3)), (25, (.lload_n 2, 1)), (26, (.lload 5, 2)), (28, (.ldiv, 1)), (29, (.l2i, 1)), (30, (.ireturn, 1))]
theorem k_F_lowestPart : i_F_lowestPart.all (fun q => decide (decode b_F_lowestPart q.1 = .ok q.2)) = true := by decide +kernel

set_option maxHeartbeats 1000000 in
set_option maxRecDepth 20000 in
theorem c_F_lowestPart (l : Launch) (G : GE) (σ : Wd) (a b k : Int) (ha : 0 ≤ a) (hb : 0 < b) (ha1 : a < 34359738368) (hb1 : b < 34359738368) (hk : inR k) : Ct l G y_F_lowestPart b_F_lowestPart 7 (some (.int)) 1 30 [vL a, vL b, vI k] σ (Dt (some (vI (lp a b k))) σ) := by
  refine Ct.of cm_F_lowestPart (Nat.le_of_ble_eq_true rfl) ?_
  intro X hXl hXG hXN hRm C E
  subst hXl; subst hXG
  have ⟨hk_1, hk_2⟩ := hk
  show V X 0 [some (vL a), none, some (vL b), none, some (vI k), none, none] [] σ
  refine V_R (fun hR => ?_)
  have hg : 0 < Int.gcd a b := Int.gcd_pos_of_ne_zero_right a (by omega)
  have hgb : (Int.gcd a b : Int) ≤ b := Int.le_of_dvd hb (Int.gcd_dvd_right ..)
  refine V_lload_n (pc := 0) C (dk k_F_lowestPart 0 rfl) rfl ?_
  refine V_lload_n (pc := 1) C (dk k_F_lowestPart 1 rfl) rfl ?_
  refine V_callS (pc := 2) C (dk k_F_lowestPart 2 rfl) lk_F_294 cm_F_commonDivisor sm_F_commonDivisor (c_cd _ _ _ a b ha (by omega) ha1 hb1) rfl rfl (Nat.le_of_ble_eq_true rfl) (Rm.mono hRm (by decide) (by decide)) ?_
  refine V_lstore (pc := 5) C (dk k_F_lowestPart 3 rfl) (by rw [hXN]; decide) ?_
  dsimp only [lst, lstL, lz, kill, Fin.val, Nat.reduceAdd]
  refine V_lload (pc := 7) C (dk k_F_lowestPart 4 rfl) rfl ?_
  refine V_lconst (pc := 9) (n' := 0) C (dk k_F_lowestPart 5 rfl) rfl ?_
  refine V_lcmp (pc := 10) C (dk k_F_lowestPart 6 rfl) ⟨by omega, by omega⟩ ⟨by omega, by omega⟩ ?_
  refine V_ifneC (pc := 11) C (dk k_F_lowestPart 7 rfl) 16 rfl  (fun h1 => ?_) (fun h1 => ?_)
  · skip
    refine V_iload (pc := 16) C (dk k_F_lowestPart 10 rfl) rfl ?_
    refine V_ifne (pc := 18) C (dk k_F_lowestPart 11 rfl) 25 rfl (by first | exact hR _ _ | with_reducible assumption | exact ⟨by omega, by omega⟩) (fun h2 => ?_) (fun h2 => ?_)
    · skip
      refine V_lload_n (pc := 25) C (dk k_F_lowestPart 14 rfl) rfl ?_
      refine V_lload (pc := 26) C (dk k_F_lowestPart 15 rfl) rfl ?_
      refine V_ldiv (pc := 28) C (dk k_F_lowestPart 16 rfl) ⟨by omega, by omega⟩ ⟨by omega, by omega⟩ (by omega) (by omega) ?_
      refine V_l2i (pc := 29) C (dk k_F_lowestPart 17 rfl) ?_
      refine V_iret (pc := 30) C E (dk k_F_lowestPart 18 rfl) ?_
      refine ⟨?_, rfl⟩
      unfold lp
      first | (rw [if_pos (by omega)]; done) | (rw [if_neg (by omega)]; done)
    · skip
      refine V_lload_n (pc := 21) C (dk k_F_lowestPart 12 rfl) rfl ?_
      refine V_goto (pc := 22) C (dk k_F_lowestPart 13 rfl) 26 rfl ?_
      refine V_lload (pc := 26) C (dk k_F_lowestPart 15 rfl) rfl ?_
      refine V_ldiv (pc := 28) C (dk k_F_lowestPart 16 rfl) ⟨by omega, by omega⟩ ⟨by omega, by omega⟩ (by omega) (by omega) ?_
      refine V_l2i (pc := 29) C (dk k_F_lowestPart 17 rfl) ?_
      refine V_iret (pc := 30) C E (dk k_F_lowestPart 18 rfl) ?_
      refine ⟨?_, rfl⟩
      unfold lp
      first | (rw [if_pos (by omega)]; done) | (rw [if_neg (by omega)]; done)
  · skip
    refine V_iconst (pc := 14) C (dk k_F_lowestPart 8 rfl) rfl ?_
    refine V_iret (pc := 15) C E (dk k_F_lowestPart 9 rfl) ?_
    exfalso; omega

theorem pow_b {b a : Int} (h0 : 0 ≤ b) (h1 : b ≤ 10) (a0 : 0 ≤ a) (a1 : a ≤ 4) : 0 ≤ b ^ a.toNat ∧ b ^ a.toNat ≤ 10000 := by
  have key : ∀ b : Fin 11, ∀ a : Fin 5, 0 ≤ (b.val : Int) ^ a.val ∧ (b.val : Int) ^ a.val ≤ 10000 := by decide
  have := key ⟨b.toNat, by omega⟩ ⟨a.toNat, by omega⟩
  rwa [show ((b.toNat : Nat) : Int) = b by omega] at this
theorem mul3_b {a b c : Int} (a0 : 0 ≤ a) (a1 : a ≤ 10) (b0 : 0 ≤ b) (b1 : b ≤ 10000) (c0 : 0 ≤ c) (c1 : c ≤ 10000) : 0 ≤ a * b * c ∧ a * b * c ≤ 1000000000 := by
  have h1 : 0 ≤ a * b := Int.mul_nonneg a0 b0
  have h2 : a * b ≤ 10 * 10000 := Int.mul_le_mul a1 b1 b0 (by omega)
  exact ⟨Int.mul_nonneg h1 c0, Int.le_trans (Int.mul_le_mul h2 c1 c0 (by omega)) (by omega)⟩
def suI (s e a b : Int) : Int := s * (10 - e) ^ a.toNat * e ^ b.toNat
def suN (s e a b : Int) : Int := (10 - s) * e ^ a.toNat * (10 - e) ^ b.toNat
def o_sure (s e a b k : Int) : Int := if (1 ≤ s ∧ s ≤ 9) ∧ (0 ≤ e ∧ e ≤ 9) ∧ (0 ≤ a ∧ a ≤ 4) ∧ (0 ≤ b ∧ b ≤ 4) ∧ (0 ≤ k ∧ k ≤ 1) then (if suI s e a b + suN s e a b = 0 then -4 else lp (suI s e a b) (suI s e a b + suN s e a b) k) else -1

def i_F_sure : List (Nat × (Instr × Nat)) := [(0, (.iload_n 1, 1)), (1, (.iconst 1, 1)), (2, (.bipush 9, 2)), (4, (.invokestatic 98, 3)), (7, (.ifCond .eq 42, 3)), (10, (.iload_n 2, 1)), (11, (.iconst 0, 1)), (12, (.bipush 9, 2)), (14, (.invokestatic 98, 3)), (17, (.ifCond .eq 32, 3)), (20, (.iload_n 3, 1)), (21, (.iconst 0, 1)), (22, (.iconst 4, 1)), (23, (.invokestatic 98, 3)), (26, (.ifCond .eq 23, 3)), (29, (.iload 4, 2)), (31, (.iconst 0, 1)), (32, (.iconst 4, 1)), (33, (.invokestatic 98, 3)), (36, (.ifCond .eq 13, 3)), (39, (.iload 5, 2)), (41, (.iconst 0, 1)), (42, (.iconst 1, 1)), (43, (.invokestatic 98, 3)), (46, (.ifCond .ne 5, 3)), (49, (.iconst (-1), 1)), (50, (.ireturn, 1)), (51, (.iload_n 1, 1)), (52, (.i2l, 1)), (53, (.bipush 10, 2)), (55, (.iload_n 2, 1)), (56, (.isub, 1)), (57, (.iload_n 3, 1)), (58, (.invokestatic 240, 3)), (61, (.lmul, 1)), (62, (.iload_n 2, 1)), (63, (.iload 4, 2)), (65, (.invokestatic 240, 3)), (68, (.lmul, 1)), (69, (.lstore 6, 2)), (71, (.bipush 10, 2)), (73, (.iload_n 1, 1)), (74, (.isub, 1)), (75, (.i2l, 1)), (76, (.iload_n 2, 1)), (77, (.iload_n 3, 1)), (78, (.invokestatic 240, 3)), (81, (.lmul, 1)), (82, (.bipush 10, 2)), (84, (.iload_n 2, 1)), (85, (.isub, 1)), (86, (.iload 4, 2)), (88, (.invokestatic 240, 3)), (91, (.lmul, 1)), (92, (.lstore 8, 2)), (94, (.lload 6, 2)), (96, (.lload 8, 2)), (98, (.ladd, 1)), (99, (.lconst 0, 1)), (100, (.lcmp, 1)), (101, (.ifCond .ne 8, 3)), (104, (.bipush (-4), 2)), (106, (.goto 15, 3)), (109, (.lload 6, 2)), (111, (.lload 6, 2)), (113, (.lload 8, 2)), (115, (.ladd, 1)), (116, (.iload 5, 2)), (118, (.invokestatic 244, 3)), (121, (.ireturn, 1))]
theorem k_F_sure : i_F_sure.all (fun q => decide (decode b_F_sure q.1 = .ok q.2)) = true := by decide +kernel

set_option maxHeartbeats 1000000 in
set_option maxRecDepth 20000 in
theorem c_F_sure (l : Launch) (G : GE) (σ : Wd) (s e a b k : Int) (hs : inR s) (he : inR e) (ha : inR a) (hb : inR b) (hk : inR k) : Ct l G y_F_sure b_F_sure 10 (some (.int)) 2 56 [vR 0, vI s, vI e, vI a, vI b, vI k] σ (Dt (some (vI (o_sure s e a b k))) σ) := by
  refine Ct.of cm_F_sure (Nat.le_of_ble_eq_true rfl) ?_
  intro X hXl hXG hXN hRm C E
  subst hXl; subst hXG
  have ⟨hs_1, hs_2⟩ := hs
  have ⟨he_1, he_2⟩ := he
  have ⟨ha_1, ha_2⟩ := ha
  have ⟨hb_1, hb_2⟩ := hb
  have ⟨hk_1, hk_2⟩ := hk
  show V X 0 [some (vR 0), some (vI s), some (vI e), some (vI a), some (vI b), some (vI k), none, none, none, none] [] σ
  refine V_R (fun hR => ?_)
  refine V_iload_n (pc := 0) C (dk k_F_sure 0 rfl) rfl ?_
  refine V_iconst (pc := 1) C (dk k_F_sure 1 rfl) rfl ?_
  refine V_bipush (pc := 2) (n' := 9) C (dk k_F_sure 2 rfl) rfl ?_
  refine V_callS (pc := 4) C (dk k_F_sure 3 rfl) lk_F_98 cm_F_within sm_F_within (c_F_within _ _ _ s 1 9 hs ⟨by decide, by decide⟩ ⟨by decide, by decide⟩) rfl rfl (Nat.le_of_ble_eq_true rfl) (Rm.mono hRm (by decide) (by decide)) ?_
  refine V_ifeqB (pc := 7) C (dk k_F_sure 4 rfl) 49 rfl (fun h1 => ?_) (fun h1 => ?_)
  · skip
    refine V_iconst (pc := 49) C (dk k_F_sure 25 rfl) rfl ?_
    refine V_iret (pc := 50) C E (dk k_F_sure 26 rfl) ?_
    exact ⟨by unfold o_sure; rw [if_neg (by omega)], rfl⟩
  · skip
    refine V_iload_n (pc := 10) C (dk k_F_sure 5 rfl) rfl ?_
    refine V_iconst (pc := 11) C (dk k_F_sure 6 rfl) rfl ?_
    refine V_bipush (pc := 12) (n' := 9) C (dk k_F_sure 7 rfl) rfl ?_
    refine V_callS (pc := 14) C (dk k_F_sure 8 rfl) lk_F_98 cm_F_within sm_F_within (c_F_within _ _ _ e 0 9 he ⟨by decide, by decide⟩ ⟨by decide, by decide⟩) rfl rfl (Nat.le_of_ble_eq_true rfl) (Rm.mono hRm (by decide) (by decide)) ?_
    refine V_ifeqB (pc := 17) C (dk k_F_sure 9 rfl) 49 rfl (fun h2 => ?_) (fun h2 => ?_)
    · skip
      refine V_iconst (pc := 49) C (dk k_F_sure 25 rfl) rfl ?_
      refine V_iret (pc := 50) C E (dk k_F_sure 26 rfl) ?_
      exact ⟨by unfold o_sure; rw [if_neg (by omega)], rfl⟩
    · skip
      refine V_iload_n (pc := 20) C (dk k_F_sure 10 rfl) rfl ?_
      refine V_iconst (pc := 21) C (dk k_F_sure 11 rfl) rfl ?_
      refine V_iconst (pc := 22) C (dk k_F_sure 12 rfl) rfl ?_
      refine V_callS (pc := 23) C (dk k_F_sure 13 rfl) lk_F_98 cm_F_within sm_F_within (c_F_within _ _ _ a 0 4 ha ⟨by decide, by decide⟩ ⟨by decide, by decide⟩) rfl rfl (Nat.le_of_ble_eq_true rfl) (Rm.mono hRm (by decide) (by decide)) ?_
      refine V_ifeqB (pc := 26) C (dk k_F_sure 14 rfl) 49 rfl (fun h3 => ?_) (fun h3 => ?_)
      · skip
        refine V_iconst (pc := 49) C (dk k_F_sure 25 rfl) rfl ?_
        refine V_iret (pc := 50) C E (dk k_F_sure 26 rfl) ?_
        exact ⟨by unfold o_sure; rw [if_neg (by omega)], rfl⟩
      · skip
        refine V_iload (pc := 29) C (dk k_F_sure 15 rfl) rfl ?_
        refine V_iconst (pc := 31) C (dk k_F_sure 16 rfl) rfl ?_
        refine V_iconst (pc := 32) C (dk k_F_sure 17 rfl) rfl ?_
        refine V_callS (pc := 33) C (dk k_F_sure 18 rfl) lk_F_98 cm_F_within sm_F_within (c_F_within _ _ _ b 0 4 hb ⟨by decide, by decide⟩ ⟨by decide, by decide⟩) rfl rfl (Nat.le_of_ble_eq_true rfl) (Rm.mono hRm (by decide) (by decide)) ?_
        refine V_ifeqB (pc := 36) C (dk k_F_sure 19 rfl) 49 rfl (fun h4 => ?_) (fun h4 => ?_)
        · skip
          refine V_iconst (pc := 49) C (dk k_F_sure 25 rfl) rfl ?_
          refine V_iret (pc := 50) C E (dk k_F_sure 26 rfl) ?_
          exact ⟨by unfold o_sure; rw [if_neg (by omega)], rfl⟩
        · skip
          refine V_iload (pc := 39) C (dk k_F_sure 20 rfl) rfl ?_
          refine V_iconst (pc := 41) C (dk k_F_sure 21 rfl) rfl ?_
          refine V_iconst (pc := 42) C (dk k_F_sure 22 rfl) rfl ?_
          refine V_callS (pc := 43) C (dk k_F_sure 23 rfl) lk_F_98 cm_F_within sm_F_within (c_F_within _ _ _ k 0 1 hk ⟨by decide, by decide⟩ ⟨by decide, by decide⟩) rfl rfl (Nat.le_of_ble_eq_true rfl) (Rm.mono hRm (by decide) (by decide)) ?_
          refine V_ifneB (pc := 46) C (dk k_F_sure 24 rfl) 51 rfl (fun h5 => ?_) (fun h5 => ?_)
          · skip
            have ⟨p1, p2⟩ := pow_b (b := 10 - e) (a := a) (by omega) (by omega) (by omega) (by omega)
            have ⟨p3, p4⟩ := pow_b (b := e) (a := b) (by omega) (by omega) (by omega) (by omega)
            have ⟨p5, p6⟩ := pow_b (b := e) (a := a) (by omega) (by omega) (by omega) (by omega)
            have ⟨p7, p8⟩ := pow_b (b := 10 - e) (a := b) (by omega) (by omega) (by omega) (by omega)
            have ⟨i0, i1⟩ := mul3_b (a := s) (by omega) (by omega) p1 p2 p3 p4
            have ⟨n0, n1⟩ := mul3_b (a := 10 - s) (by omega) (by omega) p5 p6 p7 p8
            have i0 : 0 ≤ suI s e a b := i0
            have i1 : suI s e a b ≤ 1000000000 := i1
            have n0 : 0 ≤ suN s e a b := n0
            have n1 : suN s e a b ≤ 1000000000 := n1
            refine V_iload_n (pc := 51) C (dk k_F_sure 27 rfl) rfl ?_
            refine V_i2l (pc := 52) C (dk k_F_sure 28 rfl) (by first | exact hR _ _ | with_reducible assumption | exact ⟨by omega, by omega⟩) ?_
            refine V_bipush (pc := 53) (n' := 10) C (dk k_F_sure 29 rfl) rfl ?_
            refine V_iload_n (pc := 55) C (dk k_F_sure 30 rfl) rfl ?_
            refine V_isub (pc := 56) C (dk k_F_sure 31 rfl) ?_
            refine V_iload_n (pc := 57) C (dk k_F_sure 32 rfl) rfl ?_
            refine V_callS (pc := 58) C (dk k_F_sure 33 rfl) lk_F_240 cm_F_power sm_F_power (c_F_power _ _ _ (10 - e) a ⟨by omega, by omega⟩ ⟨by omega, by omega⟩ (by omega)) rfl rfl (Nat.le_of_ble_eq_true rfl) (Rm.mono hRm (by decide) (by decide)) ?_
            refine V_lmul (pc := 61) C (dk k_F_sure 34 rfl) ?_
            refine V_iload_n (pc := 62) C (dk k_F_sure 35 rfl) rfl ?_
            refine V_iload (pc := 63) C (dk k_F_sure 36 rfl) rfl ?_
            refine V_callS (pc := 65) C (dk k_F_sure 37 rfl) lk_F_240 cm_F_power sm_F_power (c_F_power _ _ _ e b ⟨by omega, by omega⟩ ⟨by omega, by omega⟩ (by omega)) rfl rfl (Nat.le_of_ble_eq_true rfl) (Rm.mono hRm (by decide) (by decide)) ?_
            refine V_lmul (pc := 68) C (dk k_F_sure 38 rfl) ?_
            refine V_lstore (pc := 69) C (dk k_F_sure 39 rfl) (by rw [hXN]; decide) ?_
            dsimp only [lst, lstL, lz, kill, Fin.val, Nat.reduceAdd]
            refine V_bipush (pc := 71) (n' := 10) C (dk k_F_sure 40 rfl) rfl ?_
            refine V_iload_n (pc := 73) C (dk k_F_sure 41 rfl) rfl ?_
            refine V_isub (pc := 74) C (dk k_F_sure 42 rfl) ?_
            refine V_i2l (pc := 75) C (dk k_F_sure 43 rfl) (by first | exact hR _ _ | with_reducible assumption | exact ⟨by omega, by omega⟩) ?_
            refine V_iload_n (pc := 76) C (dk k_F_sure 44 rfl) rfl ?_
            refine V_iload_n (pc := 77) C (dk k_F_sure 45 rfl) rfl ?_
            refine V_callS (pc := 78) C (dk k_F_sure 46 rfl) lk_F_240 cm_F_power sm_F_power (c_F_power _ _ _ e a ⟨by omega, by omega⟩ ⟨by omega, by omega⟩ (by omega)) rfl rfl (Nat.le_of_ble_eq_true rfl) (Rm.mono hRm (by decide) (by decide)) ?_
            refine V_lmul (pc := 81) C (dk k_F_sure 47 rfl) ?_
            refine V_bipush (pc := 82) (n' := 10) C (dk k_F_sure 48 rfl) rfl ?_
            refine V_iload_n (pc := 84) C (dk k_F_sure 49 rfl) rfl ?_
            refine V_isub (pc := 85) C (dk k_F_sure 50 rfl) ?_
            refine V_iload (pc := 86) C (dk k_F_sure 51 rfl) rfl ?_
            refine V_callS (pc := 88) C (dk k_F_sure 52 rfl) lk_F_240 cm_F_power sm_F_power (c_F_power _ _ _ (10 - e) b ⟨by omega, by omega⟩ ⟨by omega, by omega⟩ (by omega)) rfl rfl (Nat.le_of_ble_eq_true rfl) (Rm.mono hRm (by decide) (by decide)) ?_
            refine V_lmul (pc := 91) C (dk k_F_sure 53 rfl) ?_
            refine V_lstore (pc := 92) C (dk k_F_sure 54 rfl) (by rw [hXN]; decide) ?_
            dsimp only [lst, lstL, lz, kill, Fin.val, Nat.reduceAdd]
            show V X _ [some (vR 0), some (vI s), some (vI e), some (vI a), some (vI b), some (vI k), some (vL (suI s e a b)), none, some (vL (suN s e a b)), none] _ _
            refine V_lload (pc := 94) C (dk k_F_sure 55 rfl) rfl ?_
            refine V_lload (pc := 96) C (dk k_F_sure 56 rfl) rfl ?_
            refine V_ladd (pc := 98) C (dk k_F_sure 57 rfl) ?_
            refine V_lconst (pc := 99) (n' := 0) C (dk k_F_sure 58 rfl) rfl ?_
            refine V_lcmp (pc := 100) C (dk k_F_sure 59 rfl) ⟨by omega, by omega⟩ ⟨by omega, by omega⟩ ?_
            refine V_ifneC (pc := 101) C (dk k_F_sure 60 rfl) 109 rfl  (fun h6 => ?_) (fun h6 => ?_)
            · skip
              refine V_lload (pc := 109) C (dk k_F_sure 63 rfl) rfl ?_
              refine V_lload (pc := 111) C (dk k_F_sure 64 rfl) rfl ?_
              refine V_lload (pc := 113) C (dk k_F_sure 65 rfl) rfl ?_
              refine V_ladd (pc := 115) C (dk k_F_sure 66 rfl) ?_
              refine V_iload (pc := 116) C (dk k_F_sure 67 rfl) rfl ?_
              refine V_callS (pc := 118) C (dk k_F_sure 68 rfl) lk_F_244 cm_F_lowestPart sm_F_lowestPart (c_F_lowestPart _ _ _ (suI s e a b) (suI s e a b + suN s e a b) k (by omega) (by omega) (by omega) (by omega) hk) rfl rfl (Nat.le_of_ble_eq_true rfl) (Rm.mono hRm (by decide) (by decide)) ?_
              refine V_iret (pc := 121) C E (dk k_F_sure 69 rfl) ?_
              first | exact ⟨by unfold o_sure; rw [if_pos (by omega), if_pos (by omega)], rfl⟩ | exact ⟨by unfold o_sure; rw [if_pos (by omega), if_neg (by omega)], rfl⟩
            · skip
              refine V_bipush (pc := 104) (n' := (-4)) C (dk k_F_sure 61 rfl) rfl ?_
              refine V_goto (pc := 106) C (dk k_F_sure 62 rfl) 121 rfl ?_
              refine V_iret (pc := 121) C E (dk k_F_sure 69 rfl) ?_
              first | exact ⟨by unfold o_sure; rw [if_pos (by omega), if_pos (by omega)], rfl⟩ | exact ⟨by unfold o_sure; rw [if_pos (by omega), if_neg (by omega)], rfl⟩
          · skip
            refine V_iconst (pc := 49) C (dk k_F_sure 25 rfl) rfl ?_
            refine V_iret (pc := 50) C E (dk k_F_sure 26 rfl) ?_
            exact ⟨by unfold o_sure; rw [if_neg (by omega)], rfl⟩

def fin_m (l : Int) : Int := 3 ^ l.toNat
def fin_d (l : Int) : Int := 10 ^ l.toNat - 3 ^ l.toNat
theorem fin_b {l : Int} (h0 : 1 ≤ l) (h1 : l ≤ 4) : 3 ≤ fin_m l ∧ fin_m l ≤ 81 ∧ 7 ≤ fin_d l ∧ fin_d l ≤ 9919 := by
  have key : ∀ n : Fin 4, 3 ≤ (3 : Int) ^ (n.val + 1) ∧ (3 : Int) ^ (n.val + 1) ≤ 81 ∧ 7 ≤ (10 : Int) ^ (n.val + 1) - 3 ^ (n.val + 1) ∧ (10 : Int) ^ (n.val + 1) - 3 ^ (n.val + 1) ≤ 9919 := by decide
  have := key ⟨l.toNat - 1, by omega⟩
  rwa [show l.toNat - 1 + 1 = l.toNat by omega] at this
def o_fine (π : PL) (x : ST) (t l : Int) : Int := if isT π t ∧ 1 ≤ l ∧ l ≤ 4 then (if (prc π x t * fin_m l + fin_d l - 1) / fin_d l ≤ 999 then (prc π x t * fin_m l + fin_d l - 1) / fin_d l else -4) else -1

def i_F_fine : List (Nat × (Instr × Nat)) := [(0, (.aload_n 0, 1)), (1, (.iload_n 1, 1)), (2, (.invokevirtual 128, 3)), (5, (.ifCond .eq 12, 3)), (8, (.iload_n 2, 1)), (9, (.iconst 1, 1)), (10, (.iconst 4, 1)), (11, (.invokestatic 98, 3)), (14, (.ifCond .ne 5, 3)), (17, (.iconst (-1), 1)), (18, (.ireturn, 1)), (19, (.iconst 3, 1)), (20, (.iload_n 2, 1)), (21, (.invokestatic 240, 3)), (24, (.lstore_n 3, 1)), (25, (.bipush 10, 2)), (27, (.iload_n 2, 1)), (28, (.invokestatic 240, 3)), (31, (.lload_n 3, 1)), (32, (.lsub, 1)), (33, (.lstore 5, 2)), (35, (.lload 5, 2)), (37, (.lconst 0, 1)), (38, (.lcmp, 1)), (39, (.ifCond .gt 6, 3)), (42, (.bipush (-4), 2)), (44, (.ireturn, 1)), (45, (.aload_n 0, 1)), (46, (.getfield 36, 3)), (49, (.aload_n 0, 1)), (50, (.getfield 26, 3)), (53, (.iload_n 1, 1)), (54, (.invokevirtual 146, 3)), (57, (.i2l, 1)), (58, (.lload_n 3, 1)), (59, (.lmul, 1)), (60, (.lload 5, 2)), (62, (.ladd, 1)), (63, (.lconst 1, 1)), (64, (.lsub, 1)), (65, (.lload 5, 2)), (67, (.ldiv, 1)), (68, (.lstore 7, 2)), (70, (.lload 7, 2)), (72, (.ldc2_w 248, 3)), (75, (.lcmp, 1)), (76, (.ifCond .gt 9, 3)), (79, (.lload 7, 2)), (81, (.l2i, 1)), (82, (.goto 5, 3)), (85, (.bipush (-4), 2)), (87, (.ireturn, 1))]
theorem k_F_fine : i_F_fine.all (fun q => decide (decode b_F_fine q.1 = .ok q.2)) = true := by decide +kernel

set_option maxHeartbeats 1000000 in
set_option maxRecDepth 20000 in
theorem c_F_fine (l : Launch) (G : GE) (σ : Wd) (pl sp : Nat) (π : PL) (x : ST) (us ks : List ST) (lk : List (Int × (Int × Int))) (tx : List Int) (j : Int) (hC : CR σ pl sp π x us ks lk tx) (hV : VK π x us ks j) (hj : j ≤ 100) (t n : Int) (ht : inR t) (hn : inR n) : Ct l G y_F_fine b_F_fine 9 (some (.int)) 3 64 [vR 0, vI t, vI n] σ (Dt (some (vI (o_fine π x t n))) σ) := by
  refine Ct.of cm_F_fine (Nat.le_of_ble_eq_true rfl) ?_
  intro X hXl hXG hXN hRm C E
  subst hXl; subst hXG
  have ⟨ht_1, ht_2⟩ := ht
  have ⟨hn_1, hn_2⟩ := hn
  show V X 0 [some (vR 0), some (vI t), some (vI n), none, none, none, none, none, none] [] σ
  refine V_R (fun hR => ?_)
  obtain ⟨hF, hsp0, hsp, hne, hx, hU, hK, hl, hT⟩ := id hC
  obtain ⟨ok, xk, usk, ksk, ks2⟩ := id hV
  have hF0 := hF
  obtain ⟨hm_pl, hπ⟩ := hF
  have hπ0 := hπ
  obtain ⟨hpl, e0, e2, e7, e10, eT, eX⟩ := hπ
  obtain ⟨hpl_1, hpl_2, hpl_3, hpl_4, hpl_5, hpl_6⟩ := kd_P hpl
  have ⟨k1, k2, k3, k4, k5, k6, kT, kX⟩ := ok
  have hx0 := hx
  obtain ⟨hs, f0, f1, fQ, fT⟩ := hx
  simp only [Nat.reduceAdd] at fQ fT
  have ⟨x1, x2, x3, x4, xQ, xT⟩ := xk
  have p512 := kd5 hpl
  have s512 := kd5 hsp
  refine V_aload_n (pc := 0) C (dk k_F_fine 0 rfl) rfl ?_
  refine V_iload_n (pc := 1) C (dk k_F_fine 1 rfl) rfl ?_
  refine V_callV (pc := 2) C (dk k_F_fine 2 rfl) lk_F_128 cm_F_isThing vm_F_isThing (c_F_isThing _ _ _ pl π t hF0 ok ht) kq_0 rfl rfl rfl (Nat.le_of_ble_eq_true rfl) (Rm.mono hRm (by decide) (by decide)) ?_
  refine V_ifeqB (pc := 5) C (dk k_F_fine 3 rfl) 17 rfl (fun h1 => ?_) (fun h1 => ?_)
  · skip
    refine V_iconst (pc := 17) C (dk k_F_fine 9 rfl) rfl ?_
    refine V_iret (pc := 18) C E (dk k_F_fine 10 rfl) ?_
    exact ⟨by unfold o_fine; rw [if_neg (by omega)], rfl⟩
  · skip
    refine V_iload_n (pc := 8) C (dk k_F_fine 4 rfl) rfl ?_
    refine V_iconst (pc := 9) C (dk k_F_fine 5 rfl) rfl ?_
    refine V_iconst (pc := 10) C (dk k_F_fine 6 rfl) rfl ?_
    refine V_callS (pc := 11) C (dk k_F_fine 7 rfl) lk_F_98 cm_F_within sm_F_within (c_F_within _ _ _ n 1 4 hn ⟨by decide, by decide⟩ ⟨by decide, by decide⟩) rfl rfl (Nat.le_of_ble_eq_true rfl) (Rm.mono hRm (by decide) (by decide)) ?_
    refine V_ifneB (pc := 14) C (dk k_F_fine 8 rfl) 19 rfl (fun h2 => ?_) (fun h2 => ?_)
    · skip
      have ⟨b1, b2, b3, b4⟩ := fin_b (l := n) (by omega) (by omega)
      have ⟨c1, c2⟩ := prc_b ok xk (t := t) (by omega) (by omega)
      have m0 : 0 ≤ prc π x t * fin_m n := Int.mul_nonneg c1 (by omega)
      have m1 : prc π x t * fin_m n ≤ 891 * 81 := Int.mul_le_mul c2 b2 (by omega) (by omega)
      have d0 : 0 ≤ (prc π x t * fin_m n + fin_d n - 1) / fin_d n := Int.ediv_nonneg (by omega) (by omega)
      have d1 : (prc π x t * fin_m n + fin_d n - 1) / fin_d n ≤ prc π x t * fin_m n + fin_d n - 1 := Int.ediv_le_self _ (by omega)
      refine V_iconst (pc := 19) C (dk k_F_fine 11 rfl) rfl ?_
      refine V_iload_n (pc := 20) C (dk k_F_fine 12 rfl) rfl ?_
      refine V_callS (pc := 21) C (dk k_F_fine 13 rfl) lk_F_240 cm_F_power sm_F_power (c_F_power _ _ _ 3 n ⟨by decide, by decide⟩ hn (by omega)) rfl rfl (Nat.le_of_ble_eq_true rfl) (Rm.mono hRm (by decide) (by decide)) ?_
      refine V_lstore_n (pc := 24) C (dk k_F_fine 14 rfl) (by rw [hXN]; decide) ?_
      dsimp only [lst, lstL, lz, kill, Fin.val, Nat.reduceAdd]
      refine V_bipush (pc := 25) (n' := 10) C (dk k_F_fine 15 rfl) rfl ?_
      refine V_iload_n (pc := 27) C (dk k_F_fine 16 rfl) rfl ?_
      refine V_callS (pc := 28) C (dk k_F_fine 17 rfl) lk_F_240 cm_F_power sm_F_power (c_F_power _ _ _ 10 n ⟨by decide, by decide⟩ hn (by omega)) rfl rfl (Nat.le_of_ble_eq_true rfl) (Rm.mono hRm (by decide) (by decide)) ?_
      refine V_lload_n (pc := 31) C (dk k_F_fine 18 rfl) rfl ?_
      refine V_lsub (pc := 32) C (dk k_F_fine 19 rfl) ?_
      refine V_lstore (pc := 33) C (dk k_F_fine 20 rfl) (by rw [hXN]; decide) ?_
      dsimp only [lst, lstL, lz, kill, Fin.val, Nat.reduceAdd]
      show V X _ [some (vR 0), some (vI t), some (vI n), some (vL (fin_m n)), none, some (vL (fin_d n)), none, none, none] _ _
      refine V_lload (pc := 35) C (dk k_F_fine 21 rfl) rfl ?_
      refine V_lconst (pc := 37) (n' := 0) C (dk k_F_fine 22 rfl) rfl ?_
      refine V_lcmp (pc := 38) C (dk k_F_fine 23 rfl) ⟨by omega, by omega⟩ ⟨by omega, by omega⟩ ?_
      refine V_ifgtC (pc := 39) C (dk k_F_fine 24 rfl) 45 rfl  (fun h3 => ?_) (fun h3 => ?_)
      · skip
        refine V_aload_n (pc := 45) C (dk k_F_fine 27 rfl) rfl ?_
        refine V_getr (pc := 46) (o2 := 19) C (dk k_F_fine 28 rfl) fl_F_36 kq_0 (by decide) rfl (by decide) rfl ?_
        refine V_aload_n (pc := 49) C (dk k_F_fine 29 rfl) rfl ?_
        refine V_getm (pc := 50) (o2 := pl) C (dk k_F_fine 30 rfl) fl_F_26 kq_0 (by decide) rfl hm_pl ?_
        refine V_iload_n (pc := 53) C (dk k_F_fine 31 rfl) rfl ?_
        refine V_callV (pc := 54) C (dk k_F_fine 32 rfl) lk_F_146 cm_S_price vm_S_price (c_S_price _ _ _ 19 pl π x j t hπ0 ok hx0 xk (by omega) (by omega) (by omega)) kq_19 rfl rfl rfl (Nat.le_of_ble_eq_true rfl) (Rm.mono hRm (by decide) (by decide)) ?_
        refine V_i2l (pc := 57) C (dk k_F_fine 33 rfl) (by first | exact hR _ _ | with_reducible assumption | exact ⟨by omega, by omega⟩) ?_
        refine V_lload_n (pc := 58) C (dk k_F_fine 34 rfl) rfl ?_
        refine V_lmul (pc := 59) C (dk k_F_fine 35 rfl) ?_
        refine V_lload (pc := 60) C (dk k_F_fine 36 rfl) rfl ?_
        refine V_ladd (pc := 62) C (dk k_F_fine 37 rfl) ?_
        refine V_lconst (pc := 63) (n' := 1) C (dk k_F_fine 38 rfl) rfl ?_
        refine V_lsub (pc := 64) C (dk k_F_fine 39 rfl) ?_
        refine V_lload (pc := 65) C (dk k_F_fine 40 rfl) rfl ?_
        refine V_ldiv (pc := 67) C (dk k_F_fine 41 rfl) ⟨by omega, by omega⟩ ⟨by omega, by omega⟩ (by omega) (by omega) ?_
        refine V_lstore (pc := 68) C (dk k_F_fine 42 rfl) (by rw [hXN]; decide) ?_
        dsimp only [lst, lstL, lz, kill, Fin.val, Nat.reduceAdd]
        refine V_lload (pc := 70) C (dk k_F_fine 43 rfl) rfl ?_
        refine V_ldc2 (pc := 72) (n' := 999) C (dk k_F_fine 44 rfl) kc_F_248 rfl ?_
        refine V_lcmp (pc := 75) C (dk k_F_fine 45 rfl) ⟨by omega, by omega⟩ ⟨by omega, by omega⟩ ?_
        refine V_ifgtC (pc := 76) C (dk k_F_fine 46 rfl) 85 rfl  (fun h4 => ?_) (fun h4 => ?_)
        · skip
          refine V_bipush (pc := 85) (n' := (-4)) C (dk k_F_fine 50 rfl) rfl ?_
          refine V_iret (pc := 87) C E (dk k_F_fine 51 rfl) ?_
          first | exact ⟨by unfold o_fine; rw [if_pos (by omega), if_pos (by omega)], rfl⟩ | exact ⟨by unfold o_fine; rw [if_pos (by omega), if_neg (by omega)], rfl⟩
        · skip
          refine V_lload (pc := 79) C (dk k_F_fine 47 rfl) rfl ?_
          refine V_l2i (pc := 81) C (dk k_F_fine 48 rfl) ?_
          refine V_goto (pc := 82) C (dk k_F_fine 49 rfl) 87 rfl ?_
          refine V_iret (pc := 87) C E (dk k_F_fine 51 rfl) ?_
          first | exact ⟨by unfold o_fine; rw [if_pos (by omega), if_pos (by omega)], rfl⟩ | exact ⟨by unfold o_fine; rw [if_pos (by omega), if_neg (by omega)], rfl⟩
      · skip
        refine V_bipush (pc := 42) (n' := (-4)) C (dk k_F_fine 25 rfl) rfl ?_
        refine V_iret (pc := 44) C E (dk k_F_fine 26 rfl) ?_
        exfalso; omega
    · skip
      refine V_iconst (pc := 17) C (dk k_F_fine 9 rfl) rfl ?_
      refine V_iret (pc := 18) C E (dk k_F_fine 10 rfl) ?_
      exact ⟨by unfold o_fine; rw [if_neg (by omega)], rfl⟩

/-- how often of 10 ^ i the price is below m on none of the first i days -/
def nvr (π : PL) (x : ST) (t m c : Int) : Nat → Int
  | 0 => 1
  | i + 1 => nvr π x t m c i * ((if 0 < m then c else 0) + (if sN x t * rt π (sD x + i) < m then 10 - c else 0))
theorem nvr_b (π : PL) (x : ST) (t m : Int) {c : Int} (h0 : 0 ≤ c) (h1 : c ≤ 10) : ∀ i : Nat, 0 ≤ nvr π x t m c i ∧ nvr π x t m c i ≤ 10 ^ i
  | 0 => by simp [nvr]
  | i + 1 => by
    have ⟨a, b⟩ := nvr_b π x t m h0 h1 i
    have hf : 0 ≤ (if 0 < m then c else 0) + (if sN x t * rt π (sD x + i) < m then 10 - c else 0) ∧ (if 0 < m then c else 0) + (if sN x t * rt π (sD x + i) < m then 10 - c else 0) ≤ 10 := by
      split <;> split <;> omega
    rw [nvr, Int.pow_succ]
    exact ⟨Int.mul_nonneg a hf.1, Int.mul_le_mul b hf.2 hf.1 (Int.pow_nonneg (by omega))⟩
theorem p10_b {n : Int} (h0 : 0 ≤ n) (h1 : n ≤ 8) : 1 ≤ (10 : Int) ^ n.toNat ∧ (10 : Int) ^ n.toNat ≤ 100000000 := by
  have key : ∀ n : Fin 9, 1 ≤ (10 : Int) ^ n.val ∧ (10 : Int) ^ n.val ≤ 100000000 := by decide
  exact key ⟨n.toNat, by omega⟩
def o_whims (π : PL) (x : ST) (t n m c k : Int) : Int := if isT π t ∧ (0 ≤ n ∧ n ≤ 8) ∧ (0 ≤ m ∧ m ≤ 999) ∧ (0 ≤ c ∧ c ≤ 10) ∧ (0 ≤ k ∧ k ≤ 1) then (if sP x t = 0 then lp (10 ^ n.toNat - nvr π x t m c n.toNat) (10 ^ n.toNat) k else -2) else -1

def i_F_whims : List (Nat × (Instr × Nat)) := [(0, (.aload_n 0, 1)), (1, (.iload_n 1, 1)), (2, (.invokevirtual 128, 3)), (5, (.ifCond .eq 45, 3)), (8, (.iload_n 2, 1)), (9, (.iconst 0, 1)), (10, (.bipush 8, 2)), (12, (.invokestatic 98, 3)), (15, (.ifCond .eq 35, 3)), (18, (.iload_n 3, 1)), (19, (.iconst 0, 1)), (20, (.sipush 999, 3)), (23, (.invokestatic 98, 3)), (26, (.ifCond .eq 24, 3)), (29, (.iload 4, 2)), (31, (.iconst 0, 1)), (32, (.bipush 10, 2)), (34, (.invokestatic 98, 3)), (37, (.ifCond .eq 13, 3)), (40, (.iload 5, 2)), (42, (.iconst 0, 1)), (43, (.iconst 1, 1)), (44, (.invokestatic 98, 3)), (47, (.ifCond .ne 5, 3)), (50, (.iconst (-1), 1)), (51, (.ireturn, 1)), (52, (.aload_n 0, 1)), (53, (.getfield 36, 3)), (56, (.getfield 143, 3)), (59, (.iload_n 1, 1)), (60, (.invokestatic 117, 3)), (63, (.ifCond .eq 6, 3)), (66, (.bipush (-2), 2)), (68, (.ireturn, 1)), (69, (.lconst 1, 1)), (70, (.lstore 6, 2)), (72, (.iconst 0, 1)), (73, (.istore 8, 2)), (75, (.iload 8, 2)), (77, (.iload_n 2, 1)), (78, (.if_icmp .ge 54, 3)), (81, (.iload_n 3, 1)), (82, (.ifCond .le 8, 3)), (85, (.iload 4, 2)), (87, (.goto 4, 3)), (90, (.iconst 0, 1)), (91, (.istore 9, 2)), (93, (.iload_n 3, 1)), (94, (.aload_n 0, 1)), (95, (.iload_n 1, 1)), (96, (.iload 8, 2)), (98, (.invokevirtual 219, 3)), (101, (.if_icmp .le 11, 3)), (104, (.bipush 10, 2)), (106, (.iload 4, 2)), (108, (.isub, 1)), (109, (.goto 4, 3)), (112, (.iconst 0, 1)), (113, (.istore 10, 2)), (115, (.lload 6, 2)), (117, (.iload 9, 2)), (119, (.iload 10, 2)), (121, (.iadd, 1)), (122, (.i2l, 1)), (123, (.lmul, 1)), (124, (.lstore 6, 2)), (126, (.iinc 8 1, 3)), (129, (.goto (-54), 3)), (132, (.bipush 10, 2)), (134, (.iload_n 2, 1)), (135, (.invokestatic 240, 3)), (138, (.lstore 8, 2)), (140, (.lload 8, 2)), (142, (.lload 6, 2)), (144, (.lsub, 1)), (145, (.lload 8, 2)), (147, (.iload 5, 2)), (149, (.invokestatic 244, 3)), (152, (.ireturn, 1))]
theorem k_F_whims : i_F_whims.all (fun q => decide (decode b_F_whims q.1 = .ok q.2)) = true := by decide +kernel

set_option maxHeartbeats 1000000 in
set_option maxRecDepth 20000 in
theorem c_F_whims (l : Launch) (G : GE) (σ : Wd) (pl sp : Nat) (π : PL) (x : ST) (us ks : List ST) (lk : List (Int × (Int × Int))) (tx : List Int) (j : Int) (hC : CR σ pl sp π x us ks lk tx) (hV : VK π x us ks j) (hj : j ≤ 100) (t n m c k : Int) (ht : inR t) (hn : inR n) (hm : inR m) (hc : inR c) (hk : inR k) : Ct l G y_F_whims b_F_whims 11 (some (.int)) 3 64 [vR 0, vI t, vI n, vI m, vI c, vI k] σ (Dt (some (vI (o_whims π x t n m c k))) σ) := by
  refine Ct.of cm_F_whims (Nat.le_of_ble_eq_true rfl) ?_
  intro X hXl hXG hXN hRm C E
  subst hXl; subst hXG
  have ⟨ht_1, ht_2⟩ := ht
  have ⟨hn_1, hn_2⟩ := hn
  have ⟨hm_1, hm_2⟩ := hm
  have ⟨hc_1, hc_2⟩ := hc
  have ⟨hk_1, hk_2⟩ := hk
  show V X 0 [some (vR 0), some (vI t), some (vI n), some (vI m), some (vI c), some (vI k), none, none, none, none, none] [] σ
  refine V_R (fun hR => ?_)
  obtain ⟨hF, hsp0, hsp, hne, hx, hU, hK, hl, hT⟩ := id hC
  obtain ⟨ok, xk, usk, ksk, ks2⟩ := id hV
  have hF0 := hF
  obtain ⟨hm_pl, hπ⟩ := hF
  have hπ0 := hπ
  obtain ⟨hpl, e0, e2, e7, e10, eT, eX⟩ := hπ
  obtain ⟨hpl_1, hpl_2, hpl_3, hpl_4, hpl_5, hpl_6⟩ := kd_P hpl
  have ⟨k1, k2, k3, k4, k5, k6, kT, kX⟩ := ok
  have hx0 := hx
  obtain ⟨hs, f0, f1, fQ, fT⟩ := hx
  simp only [Nat.reduceAdd] at fQ fT
  have ⟨x1, x2, x3, x4, xQ, xT⟩ := xk
  have p512 := kd5 hpl
  have s512 := kd5 hsp
  refine V_aload_n (pc := 0) C (dk k_F_whims 0 rfl) rfl ?_
  refine V_iload_n (pc := 1) C (dk k_F_whims 1 rfl) rfl ?_
  refine V_callV (pc := 2) C (dk k_F_whims 2 rfl) lk_F_128 cm_F_isThing vm_F_isThing (c_F_isThing _ _ _ pl π t hF0 ok ht) kq_0 rfl rfl rfl (Nat.le_of_ble_eq_true rfl) (Rm.mono hRm (by decide) (by decide)) ?_
  refine V_ifeqB (pc := 5) C (dk k_F_whims 3 rfl) 50 rfl (fun h1 => ?_) (fun h1 => ?_)
  · skip
    refine V_iconst (pc := 50) C (dk k_F_whims 24 rfl) rfl ?_
    refine V_iret (pc := 51) C E (dk k_F_whims 25 rfl) ?_
    exact ⟨by unfold o_whims; rw [if_neg (by omega)], rfl⟩
  · skip
    refine V_iload_n (pc := 8) C (dk k_F_whims 4 rfl) rfl ?_
    refine V_iconst (pc := 9) C (dk k_F_whims 5 rfl) rfl ?_
    refine V_bipush (pc := 10) (n' := 8) C (dk k_F_whims 6 rfl) rfl ?_
    refine V_callS (pc := 12) C (dk k_F_whims 7 rfl) lk_F_98 cm_F_within sm_F_within (c_F_within _ _ _ n 0 8 hn ⟨by decide, by decide⟩ ⟨by decide, by decide⟩) rfl rfl (Nat.le_of_ble_eq_true rfl) (Rm.mono hRm (by decide) (by decide)) ?_
    refine V_ifeqB (pc := 15) C (dk k_F_whims 8 rfl) 50 rfl (fun h2 => ?_) (fun h2 => ?_)
    · skip
      refine V_iconst (pc := 50) C (dk k_F_whims 24 rfl) rfl ?_
      refine V_iret (pc := 51) C E (dk k_F_whims 25 rfl) ?_
      exact ⟨by unfold o_whims; rw [if_neg (by omega)], rfl⟩
    · skip
      refine V_iload_n (pc := 18) C (dk k_F_whims 9 rfl) rfl ?_
      refine V_iconst (pc := 19) C (dk k_F_whims 10 rfl) rfl ?_
      refine V_sipush (pc := 20) (n' := 999) C (dk k_F_whims 11 rfl) rfl ?_
      refine V_callS (pc := 23) C (dk k_F_whims 12 rfl) lk_F_98 cm_F_within sm_F_within (c_F_within _ _ _ m 0 999 hm ⟨by decide, by decide⟩ ⟨by decide, by decide⟩) rfl rfl (Nat.le_of_ble_eq_true rfl) (Rm.mono hRm (by decide) (by decide)) ?_
      refine V_ifeqB (pc := 26) C (dk k_F_whims 13 rfl) 50 rfl (fun h3 => ?_) (fun h3 => ?_)
      · skip
        refine V_iconst (pc := 50) C (dk k_F_whims 24 rfl) rfl ?_
        refine V_iret (pc := 51) C E (dk k_F_whims 25 rfl) ?_
        exact ⟨by unfold o_whims; rw [if_neg (by omega)], rfl⟩
      · skip
        refine V_iload (pc := 29) C (dk k_F_whims 14 rfl) rfl ?_
        refine V_iconst (pc := 31) C (dk k_F_whims 15 rfl) rfl ?_
        refine V_bipush (pc := 32) (n' := 10) C (dk k_F_whims 16 rfl) rfl ?_
        refine V_callS (pc := 34) C (dk k_F_whims 17 rfl) lk_F_98 cm_F_within sm_F_within (c_F_within _ _ _ c 0 10 hc ⟨by decide, by decide⟩ ⟨by decide, by decide⟩) rfl rfl (Nat.le_of_ble_eq_true rfl) (Rm.mono hRm (by decide) (by decide)) ?_
        refine V_ifeqB (pc := 37) C (dk k_F_whims 18 rfl) 50 rfl (fun h4 => ?_) (fun h4 => ?_)
        · skip
          refine V_iconst (pc := 50) C (dk k_F_whims 24 rfl) rfl ?_
          refine V_iret (pc := 51) C E (dk k_F_whims 25 rfl) ?_
          exact ⟨by unfold o_whims; rw [if_neg (by omega)], rfl⟩
        · skip
          refine V_iload (pc := 40) C (dk k_F_whims 19 rfl) rfl ?_
          refine V_iconst (pc := 42) C (dk k_F_whims 20 rfl) rfl ?_
          refine V_iconst (pc := 43) C (dk k_F_whims 21 rfl) rfl ?_
          refine V_callS (pc := 44) C (dk k_F_whims 22 rfl) lk_F_98 cm_F_within sm_F_within (c_F_within _ _ _ k 0 1 hk ⟨by decide, by decide⟩ ⟨by decide, by decide⟩) rfl rfl (Nat.le_of_ble_eq_true rfl) (Rm.mono hRm (by decide) (by decide)) ?_
          refine V_ifneB (pc := 47) C (dk k_F_whims 23 rfl) 52 rfl (fun h5 => ?_) (fun h5 => ?_)
          · skip
            obtain ⟨gN, gP⟩ := fT t (by omega) (by omega)
            refine V_aload_n (pc := 52) C (dk k_F_whims 26 rfl) rfl ?_
            refine V_getr (pc := 53) (o2 := 19) C (dk k_F_whims 27 rfl) fl_F_36 kq_0 (by decide) rfl (by decide) rfl ?_
            refine V_getr (pc := 56) (o2 := 23) C (dk k_F_whims 28 rfl) fl_F_143 kq_19 (by decide) rfl (by decide) rfl ?_
            refine V_iload_n (pc := 59) C (dk k_F_whims 29 rfl) rfl ?_
            refine V_callS (pc := 60) C (dk k_F_whims 30 rfl) lk_F_117 cm_F_at sm_F_at (c_at _ _ _ (23) 8 t kq_23 (by decide) (by omega) (by omega)) rfl rfl (Nat.le_of_ble_eq_true rfl) (Rm.mono hRm (by decide) (by decide)) ?_
            refine V_ifeq (pc := 63) C (dk k_F_whims 31 rfl) 69 rfl (by first | exact hR _ _ | with_reducible assumption | exact ⟨by omega, by omega⟩) (fun h6 => ?_) (fun h6 => ?_)
            · skip
              refine V_lconst (pc := 69) (n' := 1) C (dk k_F_whims 34 rfl) rfl ?_
              refine V_lstore (pc := 70) C (dk k_F_whims 35 rfl) (by rw [hXN]; decide) ?_
              dsimp only [lst, lstL, lz, kill, Fin.val, Nat.reduceAdd]
              refine V_iconst (pc := 72) C (dk k_F_whims 36 rfl) rfl ?_
              refine V_istore (pc := 73) C (dk k_F_whims 37 rfl) (by rw [hXN]; decide) ?_
              dsimp only [lst, lstL, lz, kill, Fin.val, Nat.reduceAdd]
              refine V_eq (V_loop (fun i : Nat => (i : Int) ≤ n) (fun i => [some (vR 0), some (vI t), some (vI n), some (vI m), some (vI c), some (vI k), some (vL (nvr π x t m c i)), none, some (vI (i : Int)), none, none]) (fun _ => σ) (fun i => n.toNat - i) (fun i hi ih => ?_) 0 (by omega)) rfl rfl rfl
              have ⟨nb0, nb1⟩ := nvr_b π x t m (c := c) (by omega) (by omega) i
              have hp1 := pr_b (d := sD x + (i : Int)) ok xk (t := t) (by omega) (by omega)
              refine V_iload (pc := 75) C (dk k_F_whims 38 rfl) rfl ?_
              refine V_iload_n (pc := 77) C (dk k_F_whims 39 rfl) rfl ?_
              refine V_icmpge (pc := 78) C (dk k_F_whims 40 rfl) 132 rfl (by first | exact hR _ _ | with_reducible assumption | exact ⟨by omega, by omega⟩) (by first | exact hR _ _ | with_reducible assumption | exact ⟨by omega, by omega⟩) (fun h7 => ?_) (fun h7 => ?_)
              · skip
                obtain rfl : n = i := by omega
                have ⟨q1, q2⟩ := p10_b (n := (i : Int)) (by omega) (by omega)
                rw [Int.toNat_natCast] at q1 q2
                refine V_bipush (pc := 132) (n' := 10) C (dk k_F_whims 68 rfl) rfl ?_
                refine V_iload_n (pc := 134) C (dk k_F_whims 69 rfl) rfl ?_
                refine V_callS (pc := 135) C (dk k_F_whims 70 rfl) lk_F_240 cm_F_power sm_F_power (c_F_power _ _ _ 10 (i : Int) ⟨by decide, by decide⟩ hn (by omega)) rfl rfl (Nat.le_of_ble_eq_true rfl) (Rm.mono hRm (by decide) (by decide)) ?_
                refine V_lstore (pc := 138) C (dk k_F_whims 71 rfl) (by rw [hXN]; decide) ?_
                dsimp only [lst, lstL, lz, kill, Fin.val, Nat.reduceAdd]
                rw [Int.toNat_natCast]
                show V X _ _ _ _
                refine V_lload (pc := 140) C (dk k_F_whims 72 rfl) rfl ?_
                refine V_lload (pc := 142) C (dk k_F_whims 73 rfl) rfl ?_
                refine V_lsub (pc := 144) C (dk k_F_whims 74 rfl) ?_
                refine V_lload (pc := 145) C (dk k_F_whims 75 rfl) rfl ?_
                refine V_iload (pc := 147) C (dk k_F_whims 76 rfl) rfl ?_
                refine V_callS (pc := 149) C (dk k_F_whims 77 rfl) lk_F_244 cm_F_lowestPart sm_F_lowestPart (c_F_lowestPart _ _ _ (10 ^ i - nvr π x t m c i) (10 ^ i) k (by omega) (by omega) (by omega) (by omega) hk) rfl rfl (Nat.le_of_ble_eq_true rfl) (Rm.mono hRm (by decide) (by decide)) ?_
                refine V_iret (pc := 152) C E (dk k_F_whims 78 rfl) ?_
                exact ⟨by unfold o_whims; rw [if_pos (by omega), if_pos (by omega), Int.toNat_natCast], rfl⟩
              · skip
                refine V_iload_n (pc := 81) C (dk k_F_whims 41 rfl) rfl ?_
                refine V_ifle (pc := 82) C (dk k_F_whims 42 rfl) 90 rfl ⟨by omega, by omega⟩ (fun h8 => ?_) (fun h8 => ?_)
                · skip
                  refine V_iconst (pc := 90) C (dk k_F_whims 45 rfl) rfl ?_
                  refine V_istore (pc := 91) C (dk k_F_whims 46 rfl) (by rw [hXN]; decide) ?_
                  dsimp only [lst, lstL, lz, kill, Fin.val, Nat.reduceAdd]
                  refine V_iload_n (pc := 93) C (dk k_F_whims 47 rfl) rfl ?_
                  refine V_aload_n (pc := 94) C (dk k_F_whims 48 rfl) rfl ?_
                  refine V_iload_n (pc := 95) C (dk k_F_whims 49 rfl) rfl ?_
                  refine V_iload (pc := 96) C (dk k_F_whims 50 rfl) rfl ?_
                  refine V_callV (pc := 98) C (dk k_F_whims 51 rfl) lk_F_219 cm_F_priceBehind vm_F_priceBehind (c_F_priceBehind _ _ _ pl π x j t i hF0 ok hx0 xk (by omega) (by omega) (by omega) (by omega) (by omega)) kq_0 rfl rfl rfl (Nat.le_of_ble_eq_true rfl) (Rm.mono hRm (by decide) (by decide)) ?_
                  refine V_icmple (pc := 101) C (dk k_F_whims 52 rfl) 112 rfl ⟨by omega, by omega⟩ ⟨by omega, by omega⟩ (fun h9 => ?_) (fun h9 => ?_)
                  · skip
                    refine V_iconst (pc := 112) C (dk k_F_whims 57 rfl) rfl ?_
                    refine V_istore (pc := 113) C (dk k_F_whims 58 rfl) (by rw [hXN]; decide) ?_
                    dsimp only [lst, lstL, lz, kill, Fin.val, Nat.reduceAdd]
                    refine V_lload (pc := 115) C (dk k_F_whims 59 rfl) rfl ?_
                    refine V_iload (pc := 117) C (dk k_F_whims 60 rfl) rfl ?_
                    refine V_iload (pc := 119) C (dk k_F_whims 61 rfl) rfl ?_
                    refine V_iadd (pc := 121) C (dk k_F_whims 62 rfl) ?_
                    refine V_i2l (pc := 122) C (dk k_F_whims 63 rfl) (by first | exact hR _ _ | with_reducible assumption | exact ⟨by omega, by omega⟩) ?_
                    refine V_lmul (pc := 123) C (dk k_F_whims 64 rfl) ?_
                    refine V_lstore (pc := 124) C (dk k_F_whims 65 rfl) (by rw [hXN]; decide) ?_
                    dsimp only [lst, lstL, lz, kill, Fin.val, Nat.reduceAdd]
                    refine V_iinc (pc := 126) C (dk k_F_whims 66 rfl) (by rw [hXN]; decide) rfl ?_
                    dsimp only [lst, lstL, lz, kill, Fin.val, Nat.reduceAdd]
                    refine V_goto (pc := 129) C (dk k_F_whims 67 rfl) 75 rfl ?_
                    refine V_fg 9 ?_
                    dsimp only [fg]
                    refine V_fg 10 ?_
                    dsimp only [fg]
                    refine V_eq (ih (i + 1) (by omega) (by omega)) ?_ rfl rfl
                    rw [nvr]
                    first | (rw [if_pos (by omega), if_pos (by omega)]; rfl) | (rw [if_pos (by omega), if_neg (by omega)]; rfl) | (rw [if_neg (by omega), if_pos (by omega)]; rfl) | (rw [if_neg (by omega), if_neg (by omega)]; rfl)
                  · skip
                    refine V_bipush (pc := 104) (n' := 10) C (dk k_F_whims 53 rfl) rfl ?_
                    refine V_iload (pc := 106) C (dk k_F_whims 54 rfl) rfl ?_
                    refine V_isub (pc := 108) C (dk k_F_whims 55 rfl) ?_
                    refine V_goto (pc := 109) C (dk k_F_whims 56 rfl) 113 rfl ?_
                    refine V_istore (pc := 113) C (dk k_F_whims 58 rfl) (by rw [hXN]; decide) ?_
                    dsimp only [lst, lstL, lz, kill, Fin.val, Nat.reduceAdd]
                    refine V_lload (pc := 115) C (dk k_F_whims 59 rfl) rfl ?_
                    refine V_iload (pc := 117) C (dk k_F_whims 60 rfl) rfl ?_
                    refine V_iload (pc := 119) C (dk k_F_whims 61 rfl) rfl ?_
                    refine V_iadd (pc := 121) C (dk k_F_whims 62 rfl) ?_
                    refine V_i2l (pc := 122) C (dk k_F_whims 63 rfl) (by first | exact hR _ _ | with_reducible assumption | exact ⟨by omega, by omega⟩) ?_
                    refine V_lmul (pc := 123) C (dk k_F_whims 64 rfl) ?_
                    refine V_lstore (pc := 124) C (dk k_F_whims 65 rfl) (by rw [hXN]; decide) ?_
                    dsimp only [lst, lstL, lz, kill, Fin.val, Nat.reduceAdd]
                    refine V_iinc (pc := 126) C (dk k_F_whims 66 rfl) (by rw [hXN]; decide) rfl ?_
                    dsimp only [lst, lstL, lz, kill, Fin.val, Nat.reduceAdd]
                    refine V_goto (pc := 129) C (dk k_F_whims 67 rfl) 75 rfl ?_
                    refine V_fg 9 ?_
                    dsimp only [fg]
                    refine V_fg 10 ?_
                    dsimp only [fg]
                    refine V_eq (ih (i + 1) (by omega) (by omega)) ?_ rfl rfl
                    rw [nvr]
                    first | (rw [if_pos (by omega), if_pos (by omega)]; rfl) | (rw [if_pos (by omega), if_neg (by omega)]; rfl) | (rw [if_neg (by omega), if_pos (by omega)]; rfl) | (rw [if_neg (by omega), if_neg (by omega)]; rfl)
                · skip
                  refine V_iload (pc := 85) C (dk k_F_whims 43 rfl) rfl ?_
                  refine V_goto (pc := 87) C (dk k_F_whims 44 rfl) 91 rfl ?_
                  refine V_istore (pc := 91) C (dk k_F_whims 46 rfl) (by rw [hXN]; decide) ?_
                  dsimp only [lst, lstL, lz, kill, Fin.val, Nat.reduceAdd]
                  refine V_iload_n (pc := 93) C (dk k_F_whims 47 rfl) rfl ?_
                  refine V_aload_n (pc := 94) C (dk k_F_whims 48 rfl) rfl ?_
                  refine V_iload_n (pc := 95) C (dk k_F_whims 49 rfl) rfl ?_
                  refine V_iload (pc := 96) C (dk k_F_whims 50 rfl) rfl ?_
                  refine V_callV (pc := 98) C (dk k_F_whims 51 rfl) lk_F_219 cm_F_priceBehind vm_F_priceBehind (c_F_priceBehind _ _ _ pl π x j t i hF0 ok hx0 xk (by omega) (by omega) (by omega) (by omega) (by omega)) kq_0 rfl rfl rfl (Nat.le_of_ble_eq_true rfl) (Rm.mono hRm (by decide) (by decide)) ?_
                  refine V_icmple (pc := 101) C (dk k_F_whims 52 rfl) 112 rfl ⟨by omega, by omega⟩ ⟨by omega, by omega⟩ (fun h10 => ?_) (fun h10 => ?_)
                  · skip
                    refine V_iconst (pc := 112) C (dk k_F_whims 57 rfl) rfl ?_
                    refine V_istore (pc := 113) C (dk k_F_whims 58 rfl) (by rw [hXN]; decide) ?_
                    dsimp only [lst, lstL, lz, kill, Fin.val, Nat.reduceAdd]
                    refine V_lload (pc := 115) C (dk k_F_whims 59 rfl) rfl ?_
                    refine V_iload (pc := 117) C (dk k_F_whims 60 rfl) rfl ?_
                    refine V_iload (pc := 119) C (dk k_F_whims 61 rfl) rfl ?_
                    refine V_iadd (pc := 121) C (dk k_F_whims 62 rfl) ?_
                    refine V_i2l (pc := 122) C (dk k_F_whims 63 rfl) (by first | exact hR _ _ | with_reducible assumption | exact ⟨by omega, by omega⟩) ?_
                    refine V_lmul (pc := 123) C (dk k_F_whims 64 rfl) ?_
                    refine V_lstore (pc := 124) C (dk k_F_whims 65 rfl) (by rw [hXN]; decide) ?_
                    dsimp only [lst, lstL, lz, kill, Fin.val, Nat.reduceAdd]
                    refine V_iinc (pc := 126) C (dk k_F_whims 66 rfl) (by rw [hXN]; decide) rfl ?_
                    dsimp only [lst, lstL, lz, kill, Fin.val, Nat.reduceAdd]
                    refine V_goto (pc := 129) C (dk k_F_whims 67 rfl) 75 rfl ?_
                    refine V_fg 9 ?_
                    dsimp only [fg]
                    refine V_fg 10 ?_
                    dsimp only [fg]
                    refine V_eq (ih (i + 1) (by omega) (by omega)) ?_ rfl rfl
                    rw [nvr]
                    first | (rw [if_pos (by omega), if_pos (by omega)]; rfl) | (rw [if_pos (by omega), if_neg (by omega)]; rfl) | (rw [if_neg (by omega), if_pos (by omega)]; rfl) | (rw [if_neg (by omega), if_neg (by omega)]; rfl)
                  · skip
                    refine V_bipush (pc := 104) (n' := 10) C (dk k_F_whims 53 rfl) rfl ?_
                    refine V_iload (pc := 106) C (dk k_F_whims 54 rfl) rfl ?_
                    refine V_isub (pc := 108) C (dk k_F_whims 55 rfl) ?_
                    refine V_goto (pc := 109) C (dk k_F_whims 56 rfl) 113 rfl ?_
                    refine V_istore (pc := 113) C (dk k_F_whims 58 rfl) (by rw [hXN]; decide) ?_
                    dsimp only [lst, lstL, lz, kill, Fin.val, Nat.reduceAdd]
                    refine V_lload (pc := 115) C (dk k_F_whims 59 rfl) rfl ?_
                    refine V_iload (pc := 117) C (dk k_F_whims 60 rfl) rfl ?_
                    refine V_iload (pc := 119) C (dk k_F_whims 61 rfl) rfl ?_
                    refine V_iadd (pc := 121) C (dk k_F_whims 62 rfl) ?_
                    refine V_i2l (pc := 122) C (dk k_F_whims 63 rfl) (by first | exact hR _ _ | with_reducible assumption | exact ⟨by omega, by omega⟩) ?_
                    refine V_lmul (pc := 123) C (dk k_F_whims 64 rfl) ?_
                    refine V_lstore (pc := 124) C (dk k_F_whims 65 rfl) (by rw [hXN]; decide) ?_
                    dsimp only [lst, lstL, lz, kill, Fin.val, Nat.reduceAdd]
                    refine V_iinc (pc := 126) C (dk k_F_whims 66 rfl) (by rw [hXN]; decide) rfl ?_
                    dsimp only [lst, lstL, lz, kill, Fin.val, Nat.reduceAdd]
                    refine V_goto (pc := 129) C (dk k_F_whims 67 rfl) 75 rfl ?_
                    refine V_fg 9 ?_
                    dsimp only [fg]
                    refine V_fg 10 ?_
                    dsimp only [fg]
                    refine V_eq (ih (i + 1) (by omega) (by omega)) ?_ rfl rfl
                    rw [nvr]
                    first | (rw [if_pos (by omega), if_pos (by omega)]; rfl) | (rw [if_pos (by omega), if_neg (by omega)]; rfl) | (rw [if_neg (by omega), if_pos (by omega)]; rfl) | (rw [if_neg (by omega), if_neg (by omega)]; rfl)
            · skip
              refine V_bipush (pc := 66) (n' := (-2)) C (dk k_F_whims 32 rfl) rfl ?_
              refine V_iret (pc := 68) C E (dk k_F_whims 33 rfl) ?_
              exact ⟨by unfold o_whims; rw [if_pos (by omega), if_neg (by omega)], rfl⟩
          · skip
            refine V_iconst (pc := 50) C (dk k_F_whims 24 rfl) rfl ?_
            refine V_iret (pc := 51) C E (dk k_F_whims 25 rfl) ?_
            exact ⟨by unfold o_whims; rw [if_neg (by omega)], rfl⟩
