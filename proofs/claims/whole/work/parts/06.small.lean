def fg : List (Option AV) → Nat → List (Option AV)
  | [], _ => []
  | _ :: r, 0 => none :: r
  | a :: r, i + 1 => a :: fg r i
theorem fg_get : ∀ (ls : List (Option AV)) (i j : Nat) (a : AV), (fg ls i)[j]? = some (some a) → ls[j]? = some (some a)
  | [], _, _, _, h => by simp [fg] at h
  | b :: r, 0, 0, a, h => by simp [fg] at h
  | b :: r, 0, j + 1, a, h => by simpa [fg] using h
  | b :: r, i + 1, 0, a, h => by simpa [fg] using h
  | b :: r, i + 1, j + 1, a, h => by
    have h1 : (fg r i)[j]? = some (some a) := by simpa [fg] using h
    have := fg_get r i j a h1
    simpa using this
/-- a local that isn't needed any more -/
theorem V_fg {X : KX} {pc : Nat} {ls : List (Option AV)} {st : List AV} {σ : Wd} (i : Nat) (k : V X pc (fg ls i) st σ) : V X pc ls st σ := by
  obtain ⟨p, l, e, R, s, m, args, below, meth, c, G, nL, ck, sk, Q⟩ := X
  intro hR H locs sl hP hS hL
  exact k hR H locs sl hP hS ⟨hL.1, hL.2.1, fun j a h => hL.2.2 j a (fg_get ls i j a h)⟩
theorem up_ne1 (σ : Wd) {k k2 : Nat} (i x i2 : Int) (h : k2 ≠ k) : up σ k i x k2 i2 = σ k2 i2 := by unfold up; rw [if_neg (fun q => h q.1)]
theorem up_ne2 (σ : Wd) {k k2 : Nat} {i x i2 : Int} (h : i2 ≠ i) : up σ k i x k2 i2 = σ k2 i2 := by unfold up; rw [if_neg (fun q => h q.2)]

def i_F_within : List (Nat × (Instr × Nat)) := [(0, (.iload_n 0, 1)), (1, (.iload_n 1, 1)), (2, (.if_icmp .lt 12, 3)), (5, (.iload_n 0, 1)), (6, (.iload_n 2, 1)), (7, (.if_icmp .gt 7, 3)), (10, (.iconst 1, 1)), (11, (.goto 4, 3)), (14, (.iconst 0, 1)), (15, (.ireturn, 1))]
theorem k_F_within : i_F_within.all (fun q => decide (decode b_F_within q.1 = .ok q.2)) = true := by decide +kernel

set_option maxHeartbeats 1000000 in
set_option maxRecDepth 20000 in
theorem c_F_within (l : Launch) (G : GE) (σ : Wd) (a lo hi : Int) (ha : inR a) (hlo : inR lo) (hhi : inR hi) : Ct l G y_F_within b_F_within 3 (some (.boolean)) 0 0 [vI a, vI lo, vI hi] σ (Dt (some (vI (if lo ≤ a ∧ a ≤ hi then 1 else 0))) σ) := by
  refine Ct.of cm_F_within (Nat.le_of_ble_eq_true rfl) ?_
  intro X hXl hXG hXN hRm C E
  subst hXl; subst hXG
  have ⟨ha_1, ha_2⟩ := ha
  have ⟨hlo_1, hlo_2⟩ := hlo
  have ⟨hhi_1, hhi_2⟩ := hhi
  show V X 0 [some (vI a), some (vI lo), some (vI hi)] [] σ
  refine V_R (fun hR => ?_)
  refine V_iload_n (pc := 0) C (dk k_F_within 0 rfl) rfl ?_
  refine V_iload_n (pc := 1) C (dk k_F_within 1 rfl) rfl ?_
  refine V_icmplt (pc := 2) C (dk k_F_within 2 rfl) 14 rfl (by first | assumption | exact hR _ _ | exact ⟨by omega, by omega⟩) (by first | assumption | exact hR _ _ | exact ⟨by omega, by omega⟩) (fun h1 => ?_) (fun h1 => ?_)
  · skip
    refine V_iconst (pc := 14) C (dk k_F_within 8 rfl) rfl ?_
    refine V_zret (pc := 15) C (by first | exact Or.inl rfl | exact Or.inr rfl | (split <;> first | exact Or.inl rfl | exact Or.inr rfl) | omega) E (dk k_F_within 9 rfl) ?_
    first | exact ⟨rfl, rfl⟩ | (refine ⟨?_, rfl⟩; first | rw [if_pos (by omega)] | rw [if_neg (by omega)])
  · skip
    refine V_iload_n (pc := 5) C (dk k_F_within 3 rfl) rfl ?_
    refine V_iload_n (pc := 6) C (dk k_F_within 4 rfl) rfl ?_
    refine V_icmpgt (pc := 7) C (dk k_F_within 5 rfl) 14 rfl (by first | assumption | exact hR _ _ | exact ⟨by omega, by omega⟩) (by first | assumption | exact hR _ _ | exact ⟨by omega, by omega⟩) (fun h2 => ?_) (fun h2 => ?_)
    · skip
      refine V_iconst (pc := 14) C (dk k_F_within 8 rfl) rfl ?_
      refine V_zret (pc := 15) C (by first | exact Or.inl rfl | exact Or.inr rfl | (split <;> first | exact Or.inl rfl | exact Or.inr rfl) | omega) E (dk k_F_within 9 rfl) ?_
      first | exact ⟨rfl, rfl⟩ | (refine ⟨?_, rfl⟩; first | rw [if_pos (by omega)] | rw [if_neg (by omega)])
    · skip
      refine V_iconst (pc := 10) C (dk k_F_within 6 rfl) rfl ?_
      refine V_goto (pc := 11) C (dk k_F_within 7 rfl) 15 rfl ?_
      refine V_zret (pc := 15) C (by first | exact Or.inl rfl | exact Or.inr rfl | (split <;> first | exact Or.inl rfl | exact Or.inr rfl) | omega) E (dk k_F_within 9 rfl) ?_
      first | exact ⟨rfl, rfl⟩ | (refine ⟨?_, rfl⟩; first | rw [if_pos (by omega)] | rw [if_neg (by omega)])

def i_F_at : List (Nat × (Instr × Nat)) := [(0, (.iload_n 1, 1)), (1, (.ifCond .lt 15, 3)), (4, (.iload_n 1, 1)), (5, (.aload_n 0, 1)), (6, (.arraylength, 1)), (7, (.if_icmp .ge 9, 3)), (10, (.aload_n 0, 1)), (11, (.iload_n 1, 1)), (12, (.iaload, 1)), (13, (.goto 4, 3)), (16, (.iconst 0, 1)), (17, (.ireturn, 1))]
theorem k_F_at : i_F_at.all (fun q => decide (decode b_F_at q.1 = .ok q.2)) = true := by decide +kernel

set_option maxHeartbeats 1000000 in
set_option maxRecDepth 20000 in
theorem c_F_at (l : Launch) (G : GE) (σ : Wd) (a n : Nat) (i : Int) (ha : kd a = 1000 + n) (hn : n < 1000) (hi : inR i) : Ct l G y_F_at b_F_at 2 (some (.int)) 0 0 [vR a, vI i] σ (Dt (some (vI (if 0 ≤ i ∧ i < n then σ a i else 0))) σ) := by
  refine Ct.of cm_F_at (Nat.le_of_ble_eq_true rfl) ?_
  intro X hXl hXG hXN hRm C E
  subst hXl; subst hXG
  have ⟨hi_1, hi_2⟩ := hi
  show V X 0 [some (vR a), some (vI i)] [] σ
  refine V_R (fun hR => ?_)
  refine V_iload_n (pc := 0) C (dk k_F_at 0 rfl) rfl ?_
  refine V_iflt (pc := 1) C (dk k_F_at 1 rfl) 16 rfl (by first | assumption | exact hR _ _ | exact ⟨by omega, by omega⟩) (fun h1 => ?_) (fun h1 => ?_)
  · skip
    refine V_iconst (pc := 16) C (dk k_F_at 10 rfl) rfl ?_
    refine V_iret (pc := 17) C E (dk k_F_at 11 rfl) ?_
    first | exact ⟨rfl, rfl⟩ | (refine ⟨?_, rfl⟩; first | rw [if_pos (by omega)] | rw [if_neg (by omega)])
  · skip
    refine V_iload_n (pc := 4) C (dk k_F_at 2 rfl) rfl ?_
    refine V_aload_n (pc := 5) C (dk k_F_at 3 rfl) rfl ?_
    refine V_alen (pc := 6) C (dk k_F_at 4 rfl) (Or.inl ha) hn rfl ?_
    refine V_icmpge (pc := 7) C (dk k_F_at 5 rfl) 16 rfl (by first | assumption | exact hR _ _ | exact ⟨by omega, by omega⟩) (by first | assumption | exact hR _ _ | exact ⟨by omega, by omega⟩) (fun h2 => ?_) (fun h2 => ?_)
    · skip
      refine V_iconst (pc := 16) C (dk k_F_at 10 rfl) rfl ?_
      refine V_iret (pc := 17) C E (dk k_F_at 11 rfl) ?_
      first | exact ⟨rfl, rfl⟩ | (refine ⟨?_, rfl⟩; first | rw [if_pos (by omega)] | rw [if_neg (by omega)])
    · skip
      refine V_aload_n (pc := 10) C (dk k_F_at 6 rfl) rfl ?_
      refine V_iload_n (pc := 11) C (dk k_F_at 7 rfl) rfl ?_
      refine V_iald (pc := 12) C (dk k_F_at 8 rfl) ha hn (by omega) (by omega) ?_
      refine V_goto (pc := 13) C (dk k_F_at 9 rfl) 17 rfl ?_
      refine V_iret (pc := 17) C E (dk k_F_at 11 rfl) ?_
      first | exact ⟨rfl, rfl⟩ | (refine ⟨?_, rfl⟩; first | rw [if_pos (by omega)] | rw [if_neg (by omega)])

def i_F_put : List (Nat × (Instr × Nat)) := [(0, (.iload_n 1, 1)), (1, (.ifCond .lt 13, 3)), (4, (.iload_n 1, 1)), (5, (.aload_n 0, 1)), (6, (.arraylength, 1)), (7, (.if_icmp .ge 7, 3)), (10, (.aload_n 0, 1)), (11, (.iload_n 1, 1)), (12, (.iload_n 2, 1)), (13, (.iastore, 1)), (14, (.return_, 1))]
theorem k_F_put : i_F_put.all (fun q => decide (decode b_F_put q.1 = .ok q.2)) = true := by decide +kernel

set_option maxHeartbeats 1000000 in
set_option maxRecDepth 20000 in
theorem c_F_put (l : Launch) (G : GE) (σ : Wd) (a n : Nat) (i x : Int) (ha : kd a = 1000 + n) (hn : n < 1000) (hi : inR i) (hx : inR x) : Ct l G y_F_put b_F_put 3 (none) 0 0 [vR a, vI i, vI x] σ (Dt none (if 0 ≤ i ∧ i < n then up σ a i x else σ)) := by
  refine Ct.of cm_F_put (Nat.le_of_ble_eq_true rfl) ?_
  intro X hXl hXG hXN hRm C E
  subst hXl; subst hXG
  have ⟨hi_1, hi_2⟩ := hi
  have ⟨hx_1, hx_2⟩ := hx
  show V X 0 [some (vR a), some (vI i), some (vI x)] [] σ
  refine V_R (fun hR => ?_)
  refine V_iload_n (pc := 0) C (dk k_F_put 0 rfl) rfl ?_
  refine V_iflt (pc := 1) C (dk k_F_put 1 rfl) 14 rfl (by first | assumption | exact hR _ _ | exact ⟨by omega, by omega⟩) (fun h1 => ?_) (fun h1 => ?_)
  · skip
    refine V_vret (pc := 14) C E (dk k_F_put 10 rfl) ?_
    first | exact ⟨rfl, (if_pos (by omega)).symm⟩ | exact ⟨rfl, (if_neg (by omega)).symm⟩
  · skip
    refine V_iload_n (pc := 4) C (dk k_F_put 2 rfl) rfl ?_
    refine V_aload_n (pc := 5) C (dk k_F_put 3 rfl) rfl ?_
    refine V_alen (pc := 6) C (dk k_F_put 4 rfl) (Or.inl ha) hn rfl ?_
    refine V_icmpge (pc := 7) C (dk k_F_put 5 rfl) 14 rfl (by first | assumption | exact hR _ _ | exact ⟨by omega, by omega⟩) (by first | assumption | exact hR _ _ | exact ⟨by omega, by omega⟩) (fun h2 => ?_) (fun h2 => ?_)
    · skip
      refine V_vret (pc := 14) C E (dk k_F_put 10 rfl) ?_
      first | exact ⟨rfl, (if_pos (by omega)).symm⟩ | exact ⟨rfl, (if_neg (by omega)).symm⟩
    · skip
      refine V_aload_n (pc := 10) C (dk k_F_put 6 rfl) rfl ?_
      refine V_iload_n (pc := 11) C (dk k_F_put 7 rfl) rfl ?_
      refine V_iload_n (pc := 12) C (dk k_F_put 8 rfl) rfl ?_
      refine V_iast (pc := 13) C (dk k_F_put 9 rfl) ha hn (by omega) (by omega) (by first | assumption | exact hR _ _ | exact ⟨by omega, by omega⟩) ?_
      refine V_R (fun hR => ?_)
      refine V_vret (pc := 14) C E (dk k_F_put 10 rfl) ?_
      first | exact ⟨rfl, (if_pos (by omega)).symm⟩ | exact ⟨rfl, (if_neg (by omega)).symm⟩

theorem c_at (l : Launch) (G : GE) (σ : Wd) (a n : Nat) (i : Int) (ha : kd a = 1000 + n) (hn : n < 1000) (h0 : 0 ≤ i) (h1 : i < n) : Ct l G y_F_at b_F_at 2 (some (.int)) 0 0 [vR a, vI i] σ (Dt (some (vI (σ a i))) σ) := by
  have := c_F_at l G σ a n i ha hn ⟨by omega, by omega⟩
  rwa [if_pos ⟨h0, h1⟩] at this
theorem c_put (l : Launch) (G : GE) (σ : Wd) (a n : Nat) (i x : Int) (ha : kd a = 1000 + n) (hn : n < 1000) (h0 : 0 ≤ i) (h1 : i < n) (hx : inR x) : Ct l G y_F_put b_F_put 3 none 0 0 [vR a, vI i, vI x] σ (Dt none (up σ a i x)) := by
  have := c_F_put l G σ a n i x ha hn ⟨by omega, by omega⟩ hx
  rwa [if_pos ⟨h0, h1⟩] at this
/-- a row copied, as far as i -/
def cpw (σ : Wd) (a b : Nat) (n : Int) : Wd := fun k i => if k = b ∧ 0 ≤ i ∧ i < n then σ a i else σ k i
theorem cpw_0 (σ : Wd) (a b : Nat) : cpw σ a b 0 = σ := by
  funext k i; unfold cpw; rw [if_neg (by omega)]
theorem cpw_s (σ : Wd) (a b : Nat) (i : Int) (hab : a ≠ b) (h0 : 0 ≤ i) : up (cpw σ a b i) b i (cpw σ a b i a i) = cpw σ a b (i + 1) := by
  funext k j
  have e : cpw σ a b i a i = σ a i := by unfold cpw; rw [if_neg (fun q => hab q.1)]
  rw [e]
  unfold up cpw
  by_cases hk : k = b
  · subst hk
    by_cases hj : j = i
    · subst hj; simp; omega
    · simp only [hj, true_and, and_false, if_false]
      by_cases h2 : 0 ≤ j ∧ j < i
      · rw [if_pos h2, if_pos (by omega)]
      · rw [if_neg h2, if_neg (by omega)]
  · simp [hk]

def i_F_copyRow : List (Nat × (Instr × Nat)) := [(0, (.iconst 0, 1)), (1, (.istore_n 2, 1)), (2, (.iload_n 2, 1)), (3, (.aload_n 1, 1)), (4, (.arraylength, 1)), (5, (.if_icmp .ge 19, 3)), (8, (.aload_n 1, 1)), (9, (.iload_n 2, 1)), (10, (.aload_n 0, 1)), (11, (.iload_n 2, 1)), (12, (.invokestatic 117, 3)), (15, (.invokestatic 290, 3)), (18, (.iinc 2 1, 3)), (21, (.goto (-19), 3)), (24, (.return_, 1))]
theorem k_F_copyRow : i_F_copyRow.all (fun q => decide (decode b_F_copyRow q.1 = .ok q.2)) = true := by decide +kernel

set_option maxHeartbeats 1000000 in
set_option maxRecDepth 20000 in
theorem c_F_copyRow (l : Launch) (G : GE) (σ : Wd) (a b n : Nat) (ha : kd a = 1000 + n) (hb : kd b = 1000 + n) (hn : n < 1000) (hab : a ≠ b) : Ct l G y_F_copyRow b_F_copyRow 3 (none) 1 22 [vR a, vR b] σ (Dt none (cpw σ a b n)) := by
  refine Ct.of cm_F_copyRow (Nat.le_of_ble_eq_true rfl) ?_
  intro X hXl hXG hXN hRm C E
  subst hXl; subst hXG
  show V X 0 [some (vR a), some (vR b), none] [] σ
  refine V_R (fun hR => ?_)
  refine V_iconst (pc := 0) C (dk k_F_copyRow 0 rfl) rfl ?_
  refine V_istore_n (pc := 1) C (dk k_F_copyRow 1 rfl) (by rw [hXN]; decide) ?_
  dsimp only [lst, lstL, lz, kill, Fin.val, Nat.reduceAdd]
  refine V_eq (V_loop (fun i : Int => 0 ≤ i ∧ i ≤ n) (fun i => [some (vR a), some (vR b), some (vI i)]) (fun i => cpw σ a b i) (fun i => (n - i).toNat) (fun i hi ih => ?_) 0 ⟨by omega, by omega⟩) rfl rfl (cpw_0 σ a b).symm
  obtain ⟨hi0, hi1⟩ := hi
  refine V_R (fun hR => ?_)
  refine V_iload_n (pc := 2) C (dk k_F_copyRow 2 rfl) rfl ?_
  refine V_aload_n (pc := 3) C (dk k_F_copyRow 3 rfl) rfl ?_
  refine V_alen (pc := 4) C (dk k_F_copyRow 4 rfl) (Or.inl hb) hn rfl ?_
  refine V_icmpge (pc := 5) C (dk k_F_copyRow 5 rfl) 24 rfl (by first | assumption | exact hR _ _ | exact ⟨by omega, by omega⟩) (by first | assumption | exact hR _ _ | exact ⟨by omega, by omega⟩) (fun h1 => ?_) (fun h1 => ?_)
  · skip
    refine V_vret (pc := 24) C E (dk k_F_copyRow 14 rfl) ?_
    have e : i = n := by omega
    subst e
    exact ⟨rfl, rfl⟩
  · skip
    refine V_aload_n (pc := 8) C (dk k_F_copyRow 6 rfl) rfl ?_
    refine V_iload_n (pc := 9) C (dk k_F_copyRow 7 rfl) rfl ?_
    refine V_aload_n (pc := 10) C (dk k_F_copyRow 8 rfl) rfl ?_
    refine V_iload_n (pc := 11) C (dk k_F_copyRow 9 rfl) rfl ?_
    refine V_callS (pc := 12) C (dk k_F_copyRow 10 rfl) lk_F_117 cm_F_at sm_F_at (c_at _ _ _ a n i ha hn hi0 (by omega)) rfl rfl (Nat.le_of_ble_eq_true rfl) (Rm.mono hRm (by decide) (by decide)) ?_
    refine V_callS0 (pc := 15) C (dk k_F_copyRow 11 rfl) lk_F_290 cm_F_put sm_F_put (c_put _ _ _ b n i _ hb hn hi0 (by omega) (hR _ _)) rfl rfl (Nat.le_of_ble_eq_true rfl) (Rm.mono hRm (by decide) (by decide)) ?_
    refine V_iinc (pc := 18) C (dk k_F_copyRow 12 rfl) (by rw [hXN]; decide) rfl ?_
    dsimp only [lst, lstL, lz, kill, Fin.val, Nat.reduceAdd]
    refine V_goto (pc := 21) C (dk k_F_copyRow 13 rfl) 2 rfl ?_
    rw [cpw_s σ a b i hab hi0]
    exact ih (i + 1) ⟨by omega, by omega⟩ (by omega)

def i_F_power : List (Nat × (Instr × Nat)) := [(0, (.lconst 1, 1)), (1, (.lstore_n 2, 1)), (2, (.iconst 0, 1)), (3, (.istore 4, 2)), (5, (.iload 4, 2)), (7, (.iload_n 1, 1)), (8, (.if_icmp .ge 14, 3)), (11, (.lload_n 2, 1)), (12, (.iload_n 0, 1)), (13, (.i2l, 1)), (14, (.lmul, 1)), (15, (.lstore_n 2, 1)), (16, (.iinc 4 1, 3)), (19, (.goto (-14), 3)), (22, (.lload_n 2, 1)), (23, (.lreturn, 1))]
theorem k_F_power : i_F_power.all (fun q => decide (decode b_F_power q.1 = .ok q.2)) = true := by decide +kernel

set_option maxHeartbeats 1000000 in
set_option maxRecDepth 20000 in
theorem c_F_power (l : Launch) (G : GE) (σ : Wd) (b e : Int) (hb : inR b) (he : inR e) (he0 : 0 ≤ e) : Ct l G y_F_power b_F_power 5 (some (.long)) 0 0 [vI b, vI e] σ (Dt (some (vL (b ^ e.toNat))) σ) := by
  refine Ct.of cm_F_power (Nat.le_of_ble_eq_true rfl) ?_
  intro X hXl hXG hXN hRm C E
  subst hXl; subst hXG
  have ⟨hb_1, hb_2⟩ := hb
  have ⟨he_1, he_2⟩ := he
  show V X 0 [some (vI b), some (vI e), none, none, none] [] σ
  refine V_R (fun hR => ?_)
  refine V_lconst (pc := 0) (n' := 1) C (dk k_F_power 0 rfl) rfl ?_
  refine V_lstore_n (pc := 1) C (dk k_F_power 1 rfl) (by rw [hXN]; decide) ?_
  dsimp only [lst, lstL, lz, kill, Fin.val, Nat.reduceAdd]
  refine V_iconst (pc := 2) C (dk k_F_power 2 rfl) rfl ?_
  refine V_istore (pc := 3) C (dk k_F_power 3 rfl) (by rw [hXN]; decide) ?_
  dsimp only [lst, lstL, lz, kill, Fin.val, Nat.reduceAdd]
  refine V_eq (V_loop (fun i : Int => 0 ≤ i ∧ i ≤ e) (fun i => [some (vI b), some (vI e), some (vL (b ^ i.toNat)), none, some (vI i)]) (fun _ => σ) (fun i => (e - i).toNat) (fun i hi ih => ?_) 0 ⟨by omega, by omega⟩) (by simp) rfl rfl
  obtain ⟨hi0, hi1⟩ := hi
  refine V_iload (pc := 5) C (dk k_F_power 4 rfl) rfl ?_
  refine V_iload_n (pc := 7) C (dk k_F_power 5 rfl) rfl ?_
  refine V_icmpge (pc := 8) C (dk k_F_power 6 rfl) 22 rfl (by first | assumption | exact hR _ _ | exact ⟨by omega, by omega⟩) (by first | assumption | exact hR _ _ | exact ⟨by omega, by omega⟩) (fun h1 => ?_) (fun h1 => ?_)
  · skip
    refine V_lload_n (pc := 22) C (dk k_F_power 14 rfl) rfl ?_
    refine V_lret (pc := 23) C E (dk k_F_power 15 rfl) ?_
    have e2 : i = e := by omega
    subst e2
    exact ⟨rfl, rfl⟩
  · skip
    refine V_lload_n (pc := 11) C (dk k_F_power 7 rfl) rfl ?_
    refine V_iload_n (pc := 12) C (dk k_F_power 8 rfl) rfl ?_
    refine V_i2l (pc := 13) C (dk k_F_power 9 rfl) (by first | assumption | exact hR _ _ | exact ⟨by omega, by omega⟩) ?_
    refine V_lmul (pc := 14) C (dk k_F_power 10 rfl) ?_
    refine V_lstore_n (pc := 15) C (dk k_F_power 11 rfl) (by rw [hXN]; decide) ?_
    dsimp only [lst, lstL, lz, kill, Fin.val, Nat.reduceAdd]
    refine V_iinc (pc := 16) C (dk k_F_power 12 rfl) (by rw [hXN]; decide) rfl ?_
    dsimp only [lst, lstL, lz, kill, Fin.val, Nat.reduceAdd]
    refine V_goto (pc := 19) C (dk k_F_power 13 rfl) 5 rfl ?_
    refine V_eq (ih (i + 1) ⟨by omega, by omega⟩ (by omega)) ?_ rfl rfl
    rw [show (i + 1).toNat = i.toNat + 1 by omega, Int.pow_succ]

def nx (kind near day : Int) : Int := if near ≤ 0 then 0 else if kind = 1 then min (near + 2) 99 else if kind = 2 then (if day % 2 = 0 then near else near - 1) else if kind = 3 then max (near - 2) 0 else min (near + 1) 99

def i_F_nearNextDay : List (Nat × (Instr × Nat)) := [(0, (.iload_n 1, 1)), (1, (.ifCond .gt 5, 3)), (4, (.iconst 0, 1)), (5, (.ireturn, 1)), (6, (.iload_n 0, 1)), (7, (.tableswitch 56 1 3 #[25, 34, 48], 25)), (32, (.iload_n 1, 1)), (33, (.iconst 2, 1)), (34, (.iadd, 1)), (35, (.bipush 99, 2)), (37, (.invokestatic 282, 3)), (40, (.ireturn, 1)), (41, (.iload_n 2, 1)), (42, (.iconst 2, 1)), (43, (.irem, 1)), (44, (.ifCond .ne 7, 3)), (47, (.iload_n 1, 1)), (48, (.goto 6, 3)), (51, (.iload_n 1, 1)), (52, (.iconst 1, 1)), (53, (.isub, 1)), (54, (.ireturn, 1)), (55, (.iload_n 1, 1)), (56, (.iconst 2, 1)), (57, (.isub, 1)), (58, (.iconst 0, 1)), (59, (.invokestatic 287, 3)), (62, (.ireturn, 1)), (63, (.iload_n 1, 1)), (64, (.iconst 1, 1)), (65, (.iadd, 1)), (66, (.bipush 99, 2)), (68, (.invokestatic 282, 3)), (71, (.ireturn, 1))]
theorem k_F_nearNextDay : i_F_nearNextDay.all (fun q => decide (decode b_F_nearNextDay q.1 = .ok q.2)) = true := by decide +kernel

set_option maxHeartbeats 1000000 in
set_option maxRecDepth 20000 in
theorem c_F_nearNextDay (l : Launch) (G : GE) (σ : Wd) (k n d : Int) (hk : inR k) (hn : inR n) (hd : inR d) (hn0 : n ≤ 1000) (hd0 : 0 ≤ d) : Ct l G y_F_nearNextDay b_F_nearNextDay 3 (some (.int)) 1 26 [vI k, vI n, vI d] σ (Dt (some (vI (nx k n d))) σ) := by
  refine Ct.of cm_F_nearNextDay (Nat.le_of_ble_eq_true rfl) ?_
  intro X hXl hXG hXN hRm C E
  subst hXl; subst hXG
  have ⟨hk_1, hk_2⟩ := hk
  have ⟨hn_1, hn_2⟩ := hn
  have ⟨hd_1, hd_2⟩ := hd
  show V X 0 [some (vI k), some (vI n), some (vI d)] [] σ
  refine V_R (fun hR => ?_)
  refine V_iload_n (pc := 0) C (dk k_F_nearNextDay 0 rfl) rfl ?_
  refine V_ifgt (pc := 1) C (dk k_F_nearNextDay 1 rfl) 6 rfl (by first | assumption | exact hR _ _ | exact ⟨by omega, by omega⟩) (fun h1 => ?_) (fun h1 => ?_)
  · skip
    refine V_iload_n (pc := 6) C (dk k_F_nearNextDay 4 rfl) rfl ?_
    refine V_switch (pc := 7) C (dk k_F_nearNextDay 5 rfl) (by first | assumption | exact hR _ _ | exact ⟨by omega, by omega⟩) (fun h2 tgt ht => ?_) ⟨63, rfl⟩ (fun h2 h2b => ?_)
    · obtain rfl : tgt = 63 := by omega
      refine V_iload_n (pc := 63) C (dk k_F_nearNextDay 28 rfl) rfl ?_
      refine V_iconst (pc := 64) C (dk k_F_nearNextDay 29 rfl) rfl ?_
      refine V_iadd (pc := 65) C (dk k_F_nearNextDay 30 rfl) ?_
      refine V_bipush (pc := 66) (n' := 99) C (dk k_F_nearNextDay 31 rfl) rfl ?_
      refine V_mmin (pc := 68) C (dk k_F_nearNextDay 32 rfl) ml_F_282 (by first | exact ⟨by omega, by omega⟩ | assumption) (by first | exact ⟨by omega, by omega⟩ | assumption) (Nat.le_of_ble_eq_true rfl) (Rm.mono hRm (by decide) (by decide)) ?_
      refine V_iret (pc := 71) C E (dk k_F_nearNextDay 33 rfl) ?_
      refine ⟨congrArg some (congrArg Sum.inl ?_), rfl⟩
      unfold nx
      repeat rw [if_neg (by omega)]
      repeat rw [if_pos (by omega)]
      all_goals first | rfl | omega
    · skip
      have h2c : k = 1 ∨ k = 2 ∨ k = 3 := by omega
      rcases h2c with h2d | h2d | h2d
      · refine ⟨25, 32, by rw [h2d]; rfl, rfl, ?_⟩
        refine V_iload_n (pc := 32) C (dk k_F_nearNextDay 6 rfl) rfl ?_
        refine V_iconst (pc := 33) C (dk k_F_nearNextDay 7 rfl) rfl ?_
        refine V_iadd (pc := 34) C (dk k_F_nearNextDay 8 rfl) ?_
        refine V_bipush (pc := 35) (n' := 99) C (dk k_F_nearNextDay 9 rfl) rfl ?_
        refine V_mmin (pc := 37) C (dk k_F_nearNextDay 10 rfl) ml_F_282 (by first | exact ⟨by omega, by omega⟩ | assumption) (by first | exact ⟨by omega, by omega⟩ | assumption) (Nat.le_of_ble_eq_true rfl) (Rm.mono hRm (by decide) (by decide)) ?_
        refine V_iret (pc := 40) C E (dk k_F_nearNextDay 11 rfl) ?_
        refine ⟨congrArg some (congrArg Sum.inl ?_), rfl⟩
        unfold nx
        repeat rw [if_neg (by omega)]
        repeat rw [if_pos (by omega)]
        all_goals first | rfl | omega
      · refine ⟨34, 41, by rw [h2d]; rfl, rfl, ?_⟩
        refine V_iload_n (pc := 41) C (dk k_F_nearNextDay 12 rfl) rfl ?_
        refine V_iconst (pc := 42) C (dk k_F_nearNextDay 13 rfl) rfl ?_
        refine V_irem (pc := 43) C (dk k_F_nearNextDay 14 rfl) (by first | assumption | exact hR _ _ | exact ⟨by omega, by omega⟩) (by first | assumption | exact hR _ _ | exact ⟨by omega, by omega⟩) (by omega) (by omega) ?_
        refine V_ifne (pc := 44) C (dk k_F_nearNextDay 15 rfl) 51 rfl (by first | assumption | exact hR _ _ | exact ⟨by omega, by omega⟩) (fun h3 => ?_) (fun h3 => ?_)
        · skip
          refine V_iload_n (pc := 51) C (dk k_F_nearNextDay 18 rfl) rfl ?_
          refine V_iconst (pc := 52) C (dk k_F_nearNextDay 19 rfl) rfl ?_
          refine V_isub (pc := 53) C (dk k_F_nearNextDay 20 rfl) ?_
          refine V_iret (pc := 54) C E (dk k_F_nearNextDay 21 rfl) ?_
          refine ⟨congrArg some (congrArg Sum.inl ?_), rfl⟩
          unfold nx
          repeat rw [if_neg (by omega)]
          repeat rw [if_pos (by omega)]
          all_goals first | rfl | omega
        · skip
          refine V_iload_n (pc := 47) C (dk k_F_nearNextDay 16 rfl) rfl ?_
          refine V_goto (pc := 48) C (dk k_F_nearNextDay 17 rfl) 54 rfl ?_
          refine V_iret (pc := 54) C E (dk k_F_nearNextDay 21 rfl) ?_
          refine ⟨congrArg some (congrArg Sum.inl ?_), rfl⟩
          unfold nx
          repeat rw [if_neg (by omega)]
          repeat rw [if_pos (by omega)]
          all_goals first | rfl | omega
      · refine ⟨48, 55, by rw [h2d]; rfl, rfl, ?_⟩
        refine V_iload_n (pc := 55) C (dk k_F_nearNextDay 22 rfl) rfl ?_
        refine V_iconst (pc := 56) C (dk k_F_nearNextDay 23 rfl) rfl ?_
        refine V_isub (pc := 57) C (dk k_F_nearNextDay 24 rfl) ?_
        refine V_iconst (pc := 58) C (dk k_F_nearNextDay 25 rfl) rfl ?_
        refine V_mmax (pc := 59) C (dk k_F_nearNextDay 26 rfl) ml_F_287 (by first | exact ⟨by omega, by omega⟩ | assumption) (by first | exact ⟨by omega, by omega⟩ | assumption) (Nat.le_of_ble_eq_true rfl) (Rm.mono hRm (by decide) (by decide)) ?_
        refine V_iret (pc := 62) C E (dk k_F_nearNextDay 27 rfl) ?_
        refine ⟨congrArg some (congrArg Sum.inl ?_), rfl⟩
        unfold nx
        repeat rw [if_neg (by omega)]
        repeat rw [if_pos (by omega)]
        all_goals first | rfl | omega
  · skip
    refine V_iconst (pc := 4) C (dk k_F_nearNextDay 2 rfl) rfl ?_
    refine V_iret (pc := 5) C E (dk k_F_nearNextDay 3 rfl) ?_
    refine ⟨congrArg some (congrArg Sum.inl ?_), rfl⟩
    unfold nx
    repeat rw [if_neg (by omega)]
    repeat rw [if_pos (by omega)]
    all_goals first | rfl | omega

theorem eu_half {a b : Int} (hb : 0 < b) (hab : b < a) : b * (a % b) * 2 ≤ a * b := by
  have h1 : a % b < b := Int.emod_lt_of_pos a hb
  have h2 : 0 ≤ a % b := Int.emod_nonneg a (by omega)
  have h3 := Int.emod_add_mul_ediv a b
  have h4 : 1 ≤ a / b := by
    rcases Int.lt_or_le 0 (a / b) with h | h
    · omega
    · exfalso
      have : b * (a / b) ≤ 0 := Int.mul_nonpos_of_nonneg_of_nonpos (by omega) h
      omega
  have h5 : b * 1 ≤ b * (a / b) := Int.mul_le_mul_of_nonneg_left h4 (by omega)
  have h6 : a % b * 2 ≤ a := by omega
  have h7 : b * (a % b * 2) ≤ b * a := Int.mul_le_mul_of_nonneg_left h6 (by omega)
  rw [Int.mul_assoc, Int.mul_comm a b]
  exact h7
/-- between the steps of Euclid: i steps are done, x and y stand -/
def euI (a b i x y : Int) : Prop := 0 ≤ i ∧ i ≤ 100 ∧ 0 < x ∧ 0 ≤ y ∧ x < 4611686018427387904 ∧ y < 4611686018427387904 ∧ Int.gcd x y = Int.gcd a b ∧ (1 ≤ i → y < x ∧ x * y * 2 ^ (i - 1).toNat ≤ a * b)
theorem euI_s {a b i x y : Int} (ha : 0 < a) (hb : 0 ≤ b) (h : euI a b i x y) (hy : y ≠ 0) (hi : i < 100) (h0 : i = 0 → x = a ∧ y = b) : euI a b (i + 1) y (x % y) := by
  obtain ⟨e1, e2, e3, e4, e5, e6, e7, e8⟩ := h
  have y0 : 0 < y := by omega
  have m0 : 0 ≤ x % y := Int.emod_nonneg x hy
  have m1 : x % y < y := Int.emod_lt_of_pos x y0
  refine ⟨by omega, by omega, y0, m0, e6, by omega, ?_, fun _ => ⟨m1, ?_⟩⟩
  · rw [← e7, Int.emod_def, Int.gcd_sub_mul_left_right, Int.gcd_comm]
  · by_cases hi0 : i = 0
    · obtain ⟨rfl, rfl⟩ := h0 hi0
      subst hi0
      show y * (x % y) * 2 ^ 0 ≤ x * y
      rw [Int.pow_zero, Int.mul_one, Int.mul_comm x y]
      have : x % y ≤ x := by
        have h3 := Int.emod_add_mul_ediv x y
        have : 0 ≤ y * (x / y) := Int.mul_nonneg (by omega) (Int.ediv_nonneg (by omega) (by omega))
        omega
      exact Int.mul_le_mul_of_nonneg_left this (by omega)
    · obtain ⟨f1, f2⟩ := e8 (by omega)
      have h2 := eu_half y0 f1
      have e : (i + 1 - 1).toNat = (i - 1).toNat + 1 := by omega
      rw [e, Int.pow_succ]
      have hp : (0 : Int) ≤ 2 ^ (i - 1).toNat := Int.pow_nonneg (by omega)
      calc y * (x % y) * (2 ^ (i - 1).toNat * 2) = (y * (x % y) * 2) * 2 ^ (i - 1).toNat := by rw [Int.mul_comm (2 ^ (i - 1).toNat) 2, ← Int.mul_assoc]
        _ ≤ (x * y) * 2 ^ (i - 1).toNat := Int.mul_le_mul_of_nonneg_right h2 hp
        _ ≤ a * b := f2
theorem euI_0 {a b : Int} (ha : 0 < a) (hb : 0 ≤ b) (ha1 : a < 34359738368) (hb1 : b < 34359738368) : euI a b 0 a b :=
  ⟨by omega, by omega, ha, hb, by omega, by omega, rfl, fun q => by omega⟩
theorem euI_end {a b x y : Int} (hab : a * b ≤ 1180591620717411303424) (h : euI a b 100 x y) : y = 0 := by
  obtain ⟨e1, e2, e3, e4, e5, e6, e7, e8⟩ := h
  obtain ⟨f1, f2⟩ := e8 (by omega)
  rcases Int.lt_or_le 0 y with hy | hy
  · exfalso
    have h1 : 0 < x * y := Int.mul_pos e3 hy
    have h2 : (1 : Int) * 2 ^ (100 - 1 : Int).toNat ≤ x * y * 2 ^ (100 - 1 : Int).toNat := Int.mul_le_mul_of_nonneg_right (by omega) (Int.pow_nonneg (by omega))
    have h3 : (2 : Int) ^ (100 - 1 : Int).toNat = 633825300114114700748351602688 := by decide
    omega
  · omega

def i_F_commonDivisor : List (Nat × (Instr × Nat)) := [(0, (.lload_n 0, 1)), (1, (.lstore 4, 2)), (3, (.lload_n 2, 1)), (4, (.lstore 6, 2)), (6, (.iconst 0, 1)), (7, (.istore 8, 2)), (9, (.iload 8, 2)), (11, (.bipush 100, 2)), (13, (.if_icmp .ge 31, 3)), (16, (.lload 6, 2)), (18, (.lconst 0, 1)), (19, (.lcmp, 1)), (20, (.ifCond .eq 24, 3)), (23, (.lload 4, 2)), (25, (.lload 6, 2)), (27, (.lrem, 1)), (28, (.lstore 9, 2)), (30, (.lload 6, 2)), (32, (.lstore 4, 2)), (34, (.lload 9, 2)), (36, (.lstore 6, 2)), (38, (.iinc 8 1, 3)), (41, (.goto (-32), 3)), (44, (.lload 4, 2)), (46, (.lreturn, 1))]
theorem k_F_commonDivisor : i_F_commonDivisor.all (fun q => decide (decode b_F_commonDivisor q.1 = .ok q.2)) = true := by decide +kernel

set_option maxHeartbeats 1000000 in
set_option maxRecDepth 20000 in
theorem c_F_commonDivisor (l : Launch) (G : GE) (σ : Wd) (a b : Int) (ha : 0 < a) (hb : 0 ≤ b) (ha1 : a < 34359738368) (hb1 : b < 34359738368) : Ct l G y_F_commonDivisor b_F_commonDivisor 11 (some (.long)) 0 0 [vL a, vL b] σ (Dt (some (vL (Int.gcd a b : Nat))) σ) := by
  refine Ct.of cm_F_commonDivisor (Nat.le_of_ble_eq_true rfl) ?_
  intro X hXl hXG hXN hRm C E
  subst hXl; subst hXG
  show V X 0 [some (vL a), none, some (vL b), none, none, none, none, none, none, none, none] [] σ
  refine V_R (fun hR => ?_)
  refine V_lload_n (pc := 0) C (dk k_F_commonDivisor 0 rfl) rfl ?_
  refine V_lstore (pc := 1) C (dk k_F_commonDivisor 1 rfl) (by rw [hXN]; decide) ?_
  dsimp only [lst, lstL, lz, kill, Fin.val, Nat.reduceAdd]
  refine V_lload_n (pc := 3) C (dk k_F_commonDivisor 2 rfl) rfl ?_
  refine V_lstore (pc := 4) C (dk k_F_commonDivisor 3 rfl) (by rw [hXN]; decide) ?_
  dsimp only [lst, lstL, lz, kill, Fin.val, Nat.reduceAdd]
  refine V_iconst (pc := 6) C (dk k_F_commonDivisor 4 rfl) rfl ?_
  refine V_istore (pc := 7) C (dk k_F_commonDivisor 5 rfl) (by rw [hXN]; decide) ?_
  dsimp only [lst, lstL, lz, kill, Fin.val, Nat.reduceAdd]
  refine V_eq (V_loop (fun q : Int × (Int × Int) => euI a b q.1 q.2.1 q.2.2 ∧ (q.1 = 0 → q.2.1 = a ∧ q.2.2 = b)) (fun q => [some (vL a), none, some (vL b), none, some (vL q.2.1), none, some (vL q.2.2), none, some (vI q.1), none, none]) (fun _ => σ) (fun q => (100 - q.1).toNat) (fun q hq ih => ?_) (0, (a, b)) ⟨euI_0 ha hb ha1 hb1, fun _ => ⟨rfl, rfl⟩⟩) rfl rfl rfl
  obtain ⟨i, x, y⟩ := q
  obtain ⟨hI, h00⟩ := hq
  have ⟨g1, g2, g3, g4, g5, g6, g7, g8⟩ := hI
  dsimp only at *
  refine V_iload (pc := 9) C (dk k_F_commonDivisor 6 rfl) rfl ?_
  refine V_bipush (pc := 11) (n' := 100) C (dk k_F_commonDivisor 7 rfl) rfl ?_
  refine V_icmpge (pc := 13) C (dk k_F_commonDivisor 8 rfl) 44 rfl (by first | assumption | exact hR _ _ | exact ⟨by omega, by omega⟩) (by first | assumption | exact hR _ _ | exact ⟨by omega, by omega⟩) (fun h1 => ?_) (fun h1 => ?_)
  · skip
    refine V_lload (pc := 44) C (dk k_F_commonDivisor 23 rfl) rfl ?_
    refine V_lret (pc := 46) C E (dk k_F_commonDivisor 24 rfl) ?_
    have hab : a * b ≤ 34359738368 * 34359738368 := Int.mul_le_mul (by omega) (by omega) hb (by omega)
    have hi100 : i = 100 → y = 0 := fun q => by subst q; exact euI_end (by omega) hI
    obtain rfl : y = 0 := by omega
    refine ⟨?_, rfl⟩
    rw [← g7, Int.gcd_zero_right]
    congr 2
    omega
  · skip
    refine V_lload (pc := 16) C (dk k_F_commonDivisor 9 rfl) rfl ?_
    refine V_lconst (pc := 18) (n' := 0) C (dk k_F_commonDivisor 10 rfl) rfl ?_
    refine V_lcmp (pc := 19) C (dk k_F_commonDivisor 11 rfl) ⟨by omega, by omega⟩ ⟨by omega, by omega⟩ ?_
    refine V_ifeqC (pc := 20) C (dk k_F_commonDivisor 12 rfl) 44 rfl  (fun h2 => ?_) (fun h2 => ?_)
    · skip
      refine V_lload (pc := 44) C (dk k_F_commonDivisor 23 rfl) rfl ?_
      refine V_lret (pc := 46) C E (dk k_F_commonDivisor 24 rfl) ?_
      have hab : a * b ≤ 34359738368 * 34359738368 := Int.mul_le_mul (by omega) (by omega) hb (by omega)
      have hi100 : i = 100 → y = 0 := fun q => by subst q; exact euI_end (by omega) hI
      obtain rfl : y = 0 := by omega
      refine ⟨?_, rfl⟩
      rw [← g7, Int.gcd_zero_right]
      congr 2
      omega
    · skip
      refine V_lload (pc := 23) C (dk k_F_commonDivisor 13 rfl) rfl ?_
      refine V_lload (pc := 25) C (dk k_F_commonDivisor 14 rfl) rfl ?_
      refine V_lrem (pc := 27) C (dk k_F_commonDivisor 15 rfl) ⟨by omega, by omega⟩ ⟨by omega, by omega⟩ (by omega) (by omega) ?_
      refine V_lstore (pc := 28) C (dk k_F_commonDivisor 16 rfl) (by rw [hXN]; decide) ?_
      dsimp only [lst, lstL, lz, kill, Fin.val, Nat.reduceAdd]
      refine V_lload (pc := 30) C (dk k_F_commonDivisor 17 rfl) rfl ?_
      refine V_lstore (pc := 32) C (dk k_F_commonDivisor 18 rfl) (by rw [hXN]; decide) ?_
      dsimp only [lst, lstL, lz, kill, Fin.val, Nat.reduceAdd]
      refine V_lload (pc := 34) C (dk k_F_commonDivisor 19 rfl) rfl ?_
      refine V_lstore (pc := 36) C (dk k_F_commonDivisor 20 rfl) (by rw [hXN]; decide) ?_
      dsimp only [lst, lstL, lz, kill, Fin.val, Nat.reduceAdd]
      refine V_iinc (pc := 38) C (dk k_F_commonDivisor 21 rfl) (by rw [hXN]; decide) rfl ?_
      dsimp only [lst, lstL, lz, kill, Fin.val, Nat.reduceAdd]
      refine V_goto (pc := 41) C (dk k_F_commonDivisor 22 rfl) 9 rfl ?_
      refine V_fg 9 ?_
      dsimp only [fg]
      exact ih (i + 1, (y, x % y)) ⟨euI_s ha hb hI (by omega) (by omega) h00, fun q => by omega⟩ (by dsimp only; omega)
