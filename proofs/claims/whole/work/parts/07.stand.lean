/-- a shop's plan: persons, things, rates told, L; whose, kind, rued; the rates -/
abbrev PL : Type := Nat × (Nat × (Nat × (Int × ((Int → Int) × ((Int → Int) × ((Int → Int) × (Int → Int)))))))
def pP (π : PL) : Nat := π.1
def pN (π : PL) : Nat := π.2.1
def pR (π : PL) : Nat := π.2.2.1
def pL (π : PL) : Int := π.2.2.2.1
def pO (π : PL) : Int → Int := π.2.2.2.2.1
def pK (π : PL) : Int → Int := π.2.2.2.2.2.1
def pU (π : PL) : Int → Int := π.2.2.2.2.2.2.1
def pX (π : PL) : Int → Int := π.2.2.2.2.2.2.2
/-- how all stands: day, the shop's money; money, rue; near, place -/
abbrev ST : Type := Int × (Int × ((Int → Int) × ((Int → Int) × ((Int → Int) × (Int → Int)))))
def sD (x : ST) : Int := x.1
def sM (x : ST) : Int := x.2.1
def sG (x : ST) : Int → Int := x.2.2.1
def sR (x : ST) : Int → Int := x.2.2.2.1
def sN (x : ST) : Int → Int := x.2.2.2.2.1
def sP (x : ST) : Int → Int := x.2.2.2.2.2
def PLok (π : PL) : Prop := 1 ≤ pP π ∧ pP π ≤ 5 ∧ pN π ≤ 8 ∧ pR π ≤ 12 ∧ 0 ≤ pL π ∧ pL π ≤ 20 ∧ (∀ t : Int, 0 ≤ t → t < pN π → 0 ≤ pO π t ∧ pO π t < pP π ∧ 0 ≤ pK π t ∧ pK π t ≤ 3 ∧ 0 ≤ pU π t ∧ pU π t ≤ 20) ∧ (∀ r : Int, 0 ≤ r → r < pR π → 0 ≤ pX π r ∧ pX π r ≤ 9)
/-- bounds that grow with the calls -/
def STok (π : PL) (x : ST) (j : Int) : Prop := 0 ≤ sD x ∧ sD x ≤ 24 * j ∧ 0 ≤ sM x ∧ sM x ≤ 99 + 900 * j ∧ (∀ q : Int, 0 ≤ q → q < pP π → 0 ≤ sG x q ∧ sG x q ≤ 99 + 900 * j ∧ 0 ≤ sR x q ∧ sR x q ≤ 160 * sD x) ∧ (∀ t : Int, 0 ≤ t → t < pN π → 0 ≤ sN x t ∧ sN x t ≤ 99 ∧ 0 ≤ sP x t ∧ sP x t ≤ 2 ∧ (sP x t = 2 ↔ sN x t = 0))
/-- what the shop pays on a day -/
def rt (π : PL) (d : Int) : Int := if pR π = 0 then 3 else pX π (d % pR π)
def prc (π : PL) (x : ST) (t : Int) : Int := sN x t * rt π (sD x)
theorem rt_b {π : PL} (h : PLok π) {d : Int} : 0 ≤ rt π d ∧ rt π d ≤ 9 := by
  unfold rt
  split
  · omega
  · have h1 := Int.emod_nonneg d (b := (pR π : Int)) (by omega)
    have h2 := Int.emod_lt_of_pos d (b := (pR π : Int)) (by omega)
    exact h.2.2.2.2.2.2.2 _ h1 h2
theorem prc_b {π : PL} {x : ST} {j t : Int} (h : PLok π) (hx : STok π x j) (h0 : 0 ≤ t) (h1 : t < pN π) : 0 ≤ prc π x t ∧ prc π x t ≤ 891 := by
  obtain ⟨a1, a2⟩ := rt_b h (d := sD x)
  obtain ⟨b1, b2, -⟩ := hx.2.2.2.2.2 t h0 h1
  unfold prc
  exact ⟨Int.mul_nonneg b1 a1, Int.le_trans (Int.mul_le_mul b2 a2 a1 (by omega)) (by omega)⟩
/-- the class's plan p stands for π -/
def PlR (σ : Wd) (p : Nat) (π : PL) : Prop := kd p = 5 ∧ σ p 0 = pP π ∧ σ p 2 = pN π ∧ σ p 7 = pR π ∧ σ p 10 = pL π ∧ (∀ t : Int, 0 ≤ t → t < pN π → σ (p + 2) t = pO π t ∧ σ (p + 3) t = pK π t ∧ σ (p + 5) t = pU π t) ∧ (∀ r : Int, 0 ≤ r → r < pR π → σ (p + 6) r = pX π r)
/-- the class's stand s stands for x -/
def StR (σ : Wd) (s : Nat) (π : PL) (x : ST) : Prop := kd s = 7 ∧ σ s 0 = sD x ∧ σ s 1 = sM x ∧ (∀ q : Int, 0 ≤ q → q < pP π → σ (s + 1) q = sG x q ∧ σ (s + 2) q = sR x q) ∧ (∀ t : Int, 0 ≤ t → t < pN π → σ (s + 3) t = sN x t ∧ σ (s + 4) t = sP x t)

def i_P_rate : List (Nat × (Instr × Nat)) := [(0, (.aload_n 0, 1)), (1, (.getfield 37, 3)), (4, (.ifCond .le 19, 3)), (7, (.aload_n 0, 1)), (8, (.getfield 27, 3)), (11, (.iload_n 1, 1)), (12, (.aload_n 0, 1)), (13, (.getfield 37, 3)), (16, (.irem, 1)), (17, (.invokestatic 46, 3)), (20, (.goto 4, 3)), (23, (.iconst 3, 1)), (24, (.ireturn, 1))]
theorem k_P_rate : i_P_rate.all (fun q => decide (decode b_P_rate q.1 = .ok q.2)) = true := by decide +kernel

set_option maxHeartbeats 1000000 in
set_option maxRecDepth 20000 in
theorem c_P_rate (l : Launch) (G : GE) (σ : Wd) (p : Nat) (π : PL) (d : Int) (hπ : PlR σ p π) (ok : PLok π) (hd : inR d) (hd0 : 0 ≤ d) : Ct l G y_P_rate b_P_rate 2 (some (.int)) 1 21 [vR p, vI d] σ (Dt (some (vI (rt π d))) σ) := by
  refine Ct.of cm_P_rate (Nat.le_of_ble_eq_true rfl) ?_
  intro X hXl hXG hXN hRm C E
  subst hXl; subst hXG
  have ⟨hd_1, hd_2⟩ := hd
  show V X 0 [some (vR p), some (vI d)] [] σ
  refine V_R (fun hR => ?_)
  obtain ⟨hp, e0, e2, e7, e10, eT, eX⟩ := hπ
  obtain ⟨hp_1, hp_2, hp_3, hp_4, hp_5, hp_6⟩ := kd_P hp
  have ⟨k1, k2, k3, k4, k5, k6, kT, kX⟩ := ok
  refine V_aload_n (pc := 0) C (dk k_P_rate 0 rfl) rfl ?_
  refine V_geti (pc := 1) (ji := 7) C (dk k_P_rate 1 rfl) fl_P_37 hp (by decide) rfl rfl ?_
  refine V_ifle (pc := 4) C (dk k_P_rate 2 rfl) 23 rfl (by first | assumption | exact hR _ _ | exact ⟨by omega, by omega⟩) (fun h1 => ?_) (fun h1 => ?_)
  · skip
    refine V_iconst (pc := 23) C (dk k_P_rate 11 rfl) rfl ?_
    refine V_iret (pc := 24) C E (dk k_P_rate 12 rfl) ?_
    refine ⟨congrArg some (congrArg Sum.inl ?_), rfl⟩
    unfold rt
    first | (rw [if_neg (by omega)]; exact eX _ hm0 hm1) | (rw [if_pos (by omega)])
  · skip
    refine V_aload_n (pc := 7) C (dk k_P_rate 3 rfl) rfl ?_
    refine V_getr (pc := 8) (o2 := p + 6) C (dk k_P_rate 4 rfl) fl_P_27 hp (by decide) rfl (by decide) rfl ?_
    refine V_iload_n (pc := 11) C (dk k_P_rate 5 rfl) rfl ?_
    refine V_aload_n (pc := 12) C (dk k_P_rate 6 rfl) rfl ?_
    refine V_geti (pc := 13) (ji := 7) C (dk k_P_rate 7 rfl) fl_P_37 hp (by decide) rfl rfl ?_
    have hr0 : 0 < σ p 7 := by omega
    refine V_irem (pc := 16) C (dk k_P_rate 8 rfl) (by first | assumption | exact hR _ _ | exact ⟨by omega, by omega⟩) (by first | assumption | exact hR _ _ | exact ⟨by omega, by omega⟩) (by omega) (by omega) ?_
    have hm0 := Int.emod_nonneg d (b := σ p 7) (by omega)
    have hm1 := Int.emod_lt_of_pos d (b := σ p 7) (by omega)
    rw [e7] at hm0 hm1 ⊢
    refine V_callS (pc := 17) C (dk k_P_rate 9 rfl) lk_P_46 cm_F_at sm_F_at (c_at _ _ _ (p + 6) 12 (d % pR π) hp_6 (by decide) hm0 (by omega)) rfl rfl (Nat.le_of_ble_eq_true rfl) (Rm.mono hRm (by decide) (by decide)) ?_
    refine V_goto (pc := 20) C (dk k_P_rate 10 rfl) 24 rfl ?_
    refine V_iret (pc := 24) C E (dk k_P_rate 12 rfl) ?_
    refine ⟨congrArg some (congrArg Sum.inl ?_), rfl⟩
    unfold rt
    first | (rw [if_neg (by omega)]; exact eX _ hm0 hm1) | (rw [if_pos (by omega)])

def i_S_price : List (Nat × (Instr × Nat)) := [(0, (.aload_n 0, 1)), (1, (.getfield 18, 3)), (4, (.iload_n 2, 1)), (5, (.invokestatic 44, 3)), (8, (.aload_n 1, 1)), (9, (.aload_n 0, 1)), (10, (.getfield 24, 3)), (13, (.invokevirtual 48, 3)), (16, (.imul, 1)), (17, (.ireturn, 1))]
theorem k_S_price : i_S_price.all (fun q => decide (decode b_S_price q.1 = .ok q.2)) = true := by decide +kernel

set_option maxHeartbeats 1000000 in
set_option maxRecDepth 20000 in
theorem c_S_price (l : Launch) (G : GE) (σ : Wd) (s p : Nat) (π : PL) (x : ST) (j t : Int) (hπ : PlR σ p π) (ok : PLok π) (hx : StR σ s π x) (xk : STok π x j) (hj : j ≤ 200) (ht0 : 0 ≤ t) (ht1 : t < pN π) : Ct l G y_S_price b_S_price 3 (some (.int)) 2 42 [vR s, vR p, vI t] σ (Dt (some (vI (prc π x t))) σ) := by
  refine Ct.of cm_S_price (Nat.le_of_ble_eq_true rfl) ?_
  intro X hXl hXG hXN hRm C E
  subst hXl; subst hXG
  show V X 0 [some (vR s), some (vR p), some (vI t)] [] σ
  refine V_R (fun hR => ?_)
  have hπ0 := hπ
  have hx0 := hx
  obtain ⟨hp, e0, e2, e7, e10, eT, eX⟩ := hπ
  obtain ⟨hp_1, hp_2, hp_3, hp_4, hp_5, hp_6⟩ := kd_P hp
  have ⟨k1, k2, k3, k4, k5, k6, kT, kX⟩ := ok
  obtain ⟨hs, f0, f1, fQ, fT⟩ := hx
  obtain ⟨hs_1, hs_2, hs_3, hs_4⟩ := kd_S hs
  have ⟨x1, x2, x3, x4, xQ, xT⟩ := xk
  obtain ⟨fN, fP⟩ := fT t ht0 ht1
  obtain ⟨tO, tK, tU⟩ := eT t ht0 ht1
  obtain ⟨kO0, kO1, kK0, kK1, kU0, kU1⟩ := kT t ht0 ht1
  obtain ⟨xN0, xN1, xP0, xP1, xPN⟩ := xT t ht0 ht1
  refine V_aload_n (pc := 0) C (dk k_S_price 0 rfl) rfl ?_
  refine V_getr (pc := 1) (o2 := s + 3) C (dk k_S_price 1 rfl) fl_S_18 hs (by decide) rfl (by decide) rfl ?_
  refine V_iload_n (pc := 4) C (dk k_S_price 2 rfl) rfl ?_
  refine V_callS (pc := 5) C (dk k_S_price 3 rfl) lk_S_44 cm_F_at sm_F_at (c_at _ _ _ (s + 3) 8 t hs_3 (by decide) ht0 (by omega)) rfl rfl (Nat.le_of_ble_eq_true rfl) (Rm.mono hRm (by decide) (by decide)) ?_
  refine V_aload_n (pc := 8) C (dk k_S_price 4 rfl) rfl ?_
  refine V_aload_n (pc := 9) C (dk k_S_price 5 rfl) rfl ?_
  refine V_geti (pc := 10) (ji := 0) C (dk k_S_price 6 rfl) fl_S_24 hs (by decide) rfl rfl ?_
  refine V_callV (pc := 13) C (dk k_S_price 7 rfl) lk_S_48 cm_P_rate vm_P_rate (c_P_rate _ _ _ p π _ hπ0 ok (hR _ _) (by omega)) hp rfl rfl rfl (Nat.le_of_ble_eq_true rfl) (Rm.mono hRm (by decide) (by decide)) ?_
  refine V_imul (pc := 16) C (dk k_S_price 8 rfl) ?_
  refine V_iret (pc := 17) C E (dk k_S_price 9 rfl) ?_
  exact ⟨by unfold prc; rw [fN, f0], rfl⟩

def i_S_isOffered : List (Nat × (Instr × Nat)) := [(0, (.aload_n 0, 1)), (1, (.getfield 21, 3)), (4, (.iload_n 2, 1)), (5, (.invokestatic 44, 3)), (8, (.ifCond .ne 22, 3)), (11, (.aload_n 0, 1)), (12, (.getfield 18, 3)), (15, (.iload_n 2, 1)), (16, (.invokestatic 44, 3)), (19, (.aload_n 1, 1)), (20, (.getfield 52, 3)), (23, (.if_icmp .lt 7, 3)), (26, (.iconst 1, 1)), (27, (.goto 4, 3)), (30, (.iconst 0, 1)), (31, (.ireturn, 1))]
theorem k_S_isOffered : i_S_isOffered.all (fun q => decide (decode b_S_isOffered q.1 = .ok q.2)) = true := by decide +kernel

set_option maxHeartbeats 1000000 in
set_option maxRecDepth 20000 in
theorem c_S_isOffered (l : Launch) (G : GE) (σ : Wd) (s p : Nat) (π : PL) (x : ST) (j t : Int) (hπ : PlR σ p π) (ok : PLok π) (hx : StR σ s π x) (xk : STok π x j) (hj : j ≤ 200) (ht0 : 0 ≤ t) (ht1 : t < pN π) : Ct l G y_S_isOffered b_S_isOffered 3 (some (.boolean)) 1 21 [vR s, vR p, vI t] σ (Dt (some (vI (if sP x t = 0 ∧ pL π ≤ sN x t then 1 else 0))) σ) := by
  refine Ct.of cm_S_isOffered (Nat.le_of_ble_eq_true rfl) ?_
  intro X hXl hXG hXN hRm C E
  subst hXl; subst hXG
  show V X 0 [some (vR s), some (vR p), some (vI t)] [] σ
  refine V_R (fun hR => ?_)
  have hπ0 := hπ
  have hx0 := hx
  obtain ⟨hp, e0, e2, e7, e10, eT, eX⟩ := hπ
  obtain ⟨hp_1, hp_2, hp_3, hp_4, hp_5, hp_6⟩ := kd_P hp
  have ⟨k1, k2, k3, k4, k5, k6, kT, kX⟩ := ok
  obtain ⟨hs, f0, f1, fQ, fT⟩ := hx
  obtain ⟨hs_1, hs_2, hs_3, hs_4⟩ := kd_S hs
  have ⟨x1, x2, x3, x4, xQ, xT⟩ := xk
  obtain ⟨fN, fP⟩ := fT t ht0 ht1
  obtain ⟨tO, tK, tU⟩ := eT t ht0 ht1
  obtain ⟨kO0, kO1, kK0, kK1, kU0, kU1⟩ := kT t ht0 ht1
  obtain ⟨xN0, xN1, xP0, xP1, xPN⟩ := xT t ht0 ht1
  refine V_aload_n (pc := 0) C (dk k_S_isOffered 0 rfl) rfl ?_
  refine V_getr (pc := 1) (o2 := s + 4) C (dk k_S_isOffered 1 rfl) fl_S_21 hs (by decide) rfl (by decide) rfl ?_
  refine V_iload_n (pc := 4) C (dk k_S_isOffered 2 rfl) rfl ?_
  refine V_callS (pc := 5) C (dk k_S_isOffered 3 rfl) lk_S_44 cm_F_at sm_F_at (c_at _ _ _ (s + 4) 8 t hs_4 (by decide) ht0 (by omega)) rfl rfl (Nat.le_of_ble_eq_true rfl) (Rm.mono hRm (by decide) (by decide)) ?_
  refine V_ifne (pc := 8) C (dk k_S_isOffered 4 rfl) 30 rfl (by first | assumption | exact hR _ _ | exact ⟨by omega, by omega⟩) (fun h1 => ?_) (fun h1 => ?_)
  · skip
    refine V_iconst (pc := 30) C (dk k_S_isOffered 14 rfl) rfl ?_
    refine V_zret (pc := 31) C (by first | exact Or.inl rfl | exact Or.inr rfl | (split <;> first | exact Or.inl rfl | exact Or.inr rfl) | omega) E (dk k_S_isOffered 15 rfl) ?_
    first | exact ⟨rfl, rfl⟩ | (refine ⟨?_, rfl⟩; first | rw [if_pos (by omega)] | rw [if_neg (by omega)])
  · skip
    refine V_aload_n (pc := 11) C (dk k_S_isOffered 5 rfl) rfl ?_
    refine V_getr (pc := 12) (o2 := s + 3) C (dk k_S_isOffered 6 rfl) fl_S_18 hs (by decide) rfl (by decide) rfl ?_
    refine V_iload_n (pc := 15) C (dk k_S_isOffered 7 rfl) rfl ?_
    refine V_callS (pc := 16) C (dk k_S_isOffered 8 rfl) lk_S_44 cm_F_at sm_F_at (c_at _ _ _ (s + 3) 8 t hs_3 (by decide) ht0 (by omega)) rfl rfl (Nat.le_of_ble_eq_true rfl) (Rm.mono hRm (by decide) (by decide)) ?_
    refine V_aload_n (pc := 19) C (dk k_S_isOffered 9 rfl) rfl ?_
    refine V_geti (pc := 20) (ji := 10) C (dk k_S_isOffered 10 rfl) fl_S_52 hp (by decide) rfl rfl ?_
    refine V_icmplt (pc := 23) C (dk k_S_isOffered 11 rfl) 30 rfl (by first | assumption | exact hR _ _ | exact ⟨by omega, by omega⟩) (by first | assumption | exact hR _ _ | exact ⟨by omega, by omega⟩) (fun h2 => ?_) (fun h2 => ?_)
    · skip
      refine V_iconst (pc := 30) C (dk k_S_isOffered 14 rfl) rfl ?_
      refine V_zret (pc := 31) C (by first | exact Or.inl rfl | exact Or.inr rfl | (split <;> first | exact Or.inl rfl | exact Or.inr rfl) | omega) E (dk k_S_isOffered 15 rfl) ?_
      first | exact ⟨rfl, rfl⟩ | (refine ⟨?_, rfl⟩; first | rw [if_pos (by omega)] | rw [if_neg (by omega)])
    · skip
      refine V_iconst (pc := 26) C (dk k_S_isOffered 12 rfl) rfl ?_
      refine V_goto (pc := 27) C (dk k_S_isOffered 13 rfl) 31 rfl ?_
      refine V_zret (pc := 31) C (by first | exact Or.inl rfl | exact Or.inr rfl | (split <;> first | exact Or.inl rfl | exact Or.inr rfl) | omega) E (dk k_S_isOffered 15 rfl) ?_
      first | exact ⟨rfl, rfl⟩ | (refine ⟨?_, rfl⟩; first | rw [if_pos (by omega)] | rw [if_neg (by omega)])

def i_S_canSell : List (Nat × (Instr × Nat)) := [(0, (.aload_n 0, 1)), (1, (.aload_n 1, 1)), (2, (.iload_n 2, 1)), (3, (.invokevirtual 55, 3)), (6, (.ifCond .eq 20, 3)), (9, (.aload_n 0, 1)), (10, (.aload_n 1, 1)), (11, (.iload_n 2, 1)), (12, (.invokevirtual 59, 3)), (15, (.aload_n 0, 1)), (16, (.getfield 33, 3)), (19, (.if_icmp .gt 7, 3)), (22, (.iconst 1, 1)), (23, (.goto 4, 3)), (26, (.iconst 0, 1)), (27, (.ireturn, 1))]
theorem k_S_canSell : i_S_canSell.all (fun q => decide (decode b_S_canSell q.1 = .ok q.2)) = true := by decide +kernel

set_option maxHeartbeats 1000000 in
set_option maxRecDepth 20000 in
theorem c_S_canSell (l : Launch) (G : GE) (σ : Wd) (s p : Nat) (π : PL) (x : ST) (j t : Int) (hπ : PlR σ p π) (ok : PLok π) (hx : StR σ s π x) (xk : STok π x j) (hj : j ≤ 200) (ht0 : 0 ≤ t) (ht1 : t < pN π) : Ct l G y_S_canSell b_S_canSell 3 (some (.boolean)) 3 64 [vR s, vR p, vI t] σ (Dt (some (vI (if (sP x t = 0 ∧ pL π ≤ sN x t) ∧ prc π x t ≤ sM x then 1 else 0))) σ) := by
  refine Ct.of cm_S_canSell (Nat.le_of_ble_eq_true rfl) ?_
  intro X hXl hXG hXN hRm C E
  subst hXl; subst hXG
  show V X 0 [some (vR s), some (vR p), some (vI t)] [] σ
  refine V_R (fun hR => ?_)
  have hπ0 := hπ
  have hx0 := hx
  obtain ⟨hp, e0, e2, e7, e10, eT, eX⟩ := hπ
  obtain ⟨hp_1, hp_2, hp_3, hp_4, hp_5, hp_6⟩ := kd_P hp
  have ⟨k1, k2, k3, k4, k5, k6, kT, kX⟩ := ok
  obtain ⟨hs, f0, f1, fQ, fT⟩ := hx
  obtain ⟨hs_1, hs_2, hs_3, hs_4⟩ := kd_S hs
  have ⟨x1, x2, x3, x4, xQ, xT⟩ := xk
  obtain ⟨fN, fP⟩ := fT t ht0 ht1
  obtain ⟨tO, tK, tU⟩ := eT t ht0 ht1
  obtain ⟨kO0, kO1, kK0, kK1, kU0, kU1⟩ := kT t ht0 ht1
  obtain ⟨xN0, xN1, xP0, xP1, xPN⟩ := xT t ht0 ht1
  have hpr := prc_b ok xk ht0 ht1
  refine V_aload_n (pc := 0) C (dk k_S_canSell 0 rfl) rfl ?_
  refine V_aload_n (pc := 1) C (dk k_S_canSell 1 rfl) rfl ?_
  refine V_iload_n (pc := 2) C (dk k_S_canSell 2 rfl) rfl ?_
  refine V_callV (pc := 3) C (dk k_S_canSell 3 rfl) lk_S_55 cm_S_isOffered vm_S_isOffered (c_S_isOffered _ _ _ s p π x j t hπ0 ok hx0 xk hj ht0 ht1) hs rfl rfl rfl (Nat.le_of_ble_eq_true rfl) (Rm.mono hRm (by decide) (by decide)) ?_
  refine V_ifeqB (pc := 6) C (dk k_S_canSell 4 rfl) 26 rfl (fun h1 => ?_) (fun h1 => ?_)
  · skip
    refine V_iconst (pc := 26) C (dk k_S_canSell 14 rfl) rfl ?_
    refine V_zret (pc := 27) C (by first | exact Or.inl rfl | exact Or.inr rfl | (split <;> first | exact Or.inl rfl | exact Or.inr rfl) | omega) E (dk k_S_canSell 15 rfl) ?_
    refine ⟨?_, rfl⟩
    first | rw [if_pos ⟨by omega, by omega⟩] | rw [if_neg (fun q => by omega)]
  · skip
    refine V_aload_n (pc := 9) C (dk k_S_canSell 5 rfl) rfl ?_
    refine V_aload_n (pc := 10) C (dk k_S_canSell 6 rfl) rfl ?_
    refine V_iload_n (pc := 11) C (dk k_S_canSell 7 rfl) rfl ?_
    refine V_callV (pc := 12) C (dk k_S_canSell 8 rfl) lk_S_59 cm_S_price vm_S_price (c_S_price _ _ _ s p π x j t hπ0 ok hx0 xk hj ht0 ht1) hs rfl rfl rfl (Nat.le_of_ble_eq_true rfl) (Rm.mono hRm (by decide) (by decide)) ?_
    refine V_aload_n (pc := 15) C (dk k_S_canSell 9 rfl) rfl ?_
    refine V_geti (pc := 16) (ji := 1) C (dk k_S_canSell 10 rfl) fl_S_33 hs (by decide) rfl rfl ?_
    refine V_icmpgt (pc := 19) C (dk k_S_canSell 11 rfl) 26 rfl (by first | assumption | exact hR _ _ | exact ⟨by omega, by omega⟩) (by first | assumption | exact hR _ _ | exact ⟨by omega, by omega⟩) (fun h2 => ?_) (fun h2 => ?_)
    · skip
      refine V_iconst (pc := 26) C (dk k_S_canSell 14 rfl) rfl ?_
      refine V_zret (pc := 27) C (by first | exact Or.inl rfl | exact Or.inr rfl | (split <;> first | exact Or.inl rfl | exact Or.inr rfl) | omega) E (dk k_S_canSell 15 rfl) ?_
      refine ⟨?_, rfl⟩
      first | rw [if_pos ⟨by omega, by omega⟩] | rw [if_neg (fun q => by omega)]
    · skip
      refine V_iconst (pc := 22) C (dk k_S_canSell 12 rfl) rfl ?_
      refine V_goto (pc := 23) C (dk k_S_canSell 13 rfl) 27 rfl ?_
      refine V_zret (pc := 27) C (by first | exact Or.inl rfl | exact Or.inr rfl | (split <;> first | exact Or.inl rfl | exact Or.inr rfl) | omega) E (dk k_S_canSell 15 rfl) ?_
      refine ⟨?_, rfl⟩
      first | rw [if_pos ⟨by omega, by omega⟩] | rw [if_neg (fun q => by omega)]

def i_S_canBuyBack : List (Nat × (Instr × Nat)) := [(0, (.aload_n 0, 1)), (1, (.getfield 21, 3)), (4, (.iload_n 2, 1)), (5, (.invokestatic 44, 3)), (8, (.iconst 1, 1)), (9, (.if_icmp .ne 31, 3)), (12, (.aload_n 0, 1)), (13, (.aload_n 1, 1)), (14, (.iload_n 2, 1)), (15, (.invokevirtual 59, 3)), (18, (.aload_n 0, 1)), (19, (.getfield 9, 3)), (22, (.aload_n 1, 1)), (23, (.getfield 63, 3)), (26, (.iload_n 2, 1)), (27, (.invokestatic 44, 3)), (30, (.invokestatic 44, 3)), (33, (.if_icmp .gt 7, 3)), (36, (.iconst 1, 1)), (37, (.goto 4, 3)), (40, (.iconst 0, 1)), (41, (.ireturn, 1))]
theorem k_S_canBuyBack : i_S_canBuyBack.all (fun q => decide (decode b_S_canBuyBack q.1 = .ok q.2)) = true := by decide +kernel

set_option maxHeartbeats 1000000 in
set_option maxRecDepth 20000 in
theorem c_S_canBuyBack (l : Launch) (G : GE) (σ : Wd) (s p : Nat) (π : PL) (x : ST) (j t : Int) (hπ : PlR σ p π) (ok : PLok π) (hx : StR σ s π x) (xk : STok π x j) (hj : j ≤ 200) (ht0 : 0 ≤ t) (ht1 : t < pN π) : Ct l G y_S_canBuyBack b_S_canBuyBack 3 (some (.boolean)) 3 64 [vR s, vR p, vI t] σ (Dt (some (vI (if sP x t = 1 ∧ prc π x t ≤ sG x (pO π t) then 1 else 0))) σ) := by
  refine Ct.of cm_S_canBuyBack (Nat.le_of_ble_eq_true rfl) ?_
  intro X hXl hXG hXN hRm C E
  subst hXl; subst hXG
  show V X 0 [some (vR s), some (vR p), some (vI t)] [] σ
  refine V_R (fun hR => ?_)
  have hπ0 := hπ
  have hx0 := hx
  obtain ⟨hp, e0, e2, e7, e10, eT, eX⟩ := hπ
  obtain ⟨hp_1, hp_2, hp_3, hp_4, hp_5, hp_6⟩ := kd_P hp
  have ⟨k1, k2, k3, k4, k5, k6, kT, kX⟩ := ok
  obtain ⟨hs, f0, f1, fQ, fT⟩ := hx
  obtain ⟨hs_1, hs_2, hs_3, hs_4⟩ := kd_S hs
  have ⟨x1, x2, x3, x4, xQ, xT⟩ := xk
  obtain ⟨fN, fP⟩ := fT t ht0 ht1
  obtain ⟨tO, tK, tU⟩ := eT t ht0 ht1
  obtain ⟨kO0, kO1, kK0, kK1, kU0, kU1⟩ := kT t ht0 ht1
  obtain ⟨xN0, xN1, xP0, xP1, xPN⟩ := xT t ht0 ht1
  have hpr := prc_b ok xk ht0 ht1
  obtain ⟨fG, fR⟩ := fQ _ kO0 kO1
  refine V_aload_n (pc := 0) C (dk k_S_canBuyBack 0 rfl) rfl ?_
  refine V_getr (pc := 1) (o2 := s + 4) C (dk k_S_canBuyBack 1 rfl) fl_S_21 hs (by decide) rfl (by decide) rfl ?_
  refine V_iload_n (pc := 4) C (dk k_S_canBuyBack 2 rfl) rfl ?_
  refine V_callS (pc := 5) C (dk k_S_canBuyBack 3 rfl) lk_S_44 cm_F_at sm_F_at (c_at _ _ _ (s + 4) 8 t hs_4 (by decide) ht0 (by omega)) rfl rfl (Nat.le_of_ble_eq_true rfl) (Rm.mono hRm (by decide) (by decide)) ?_
  refine V_iconst (pc := 8) C (dk k_S_canBuyBack 4 rfl) rfl ?_
  refine V_icmpne (pc := 9) C (dk k_S_canBuyBack 5 rfl) 40 rfl (by first | assumption | exact hR _ _ | exact ⟨by omega, by omega⟩) (by first | assumption | exact hR _ _ | exact ⟨by omega, by omega⟩) (fun h1 => ?_) (fun h1 => ?_)
  · skip
    refine V_iconst (pc := 40) C (dk k_S_canBuyBack 20 rfl) rfl ?_
    refine V_zret (pc := 41) C (by first | exact Or.inl rfl | exact Or.inr rfl | (split <;> first | exact Or.inl rfl | exact Or.inr rfl) | omega) E (dk k_S_canBuyBack 21 rfl) ?_
    refine ⟨?_, rfl⟩
    first | rw [if_pos ⟨by omega, by omega⟩] | rw [if_neg (fun q => by omega)]
  · skip
    refine V_aload_n (pc := 12) C (dk k_S_canBuyBack 6 rfl) rfl ?_
    refine V_aload_n (pc := 13) C (dk k_S_canBuyBack 7 rfl) rfl ?_
    refine V_iload_n (pc := 14) C (dk k_S_canBuyBack 8 rfl) rfl ?_
    refine V_callV (pc := 15) C (dk k_S_canBuyBack 9 rfl) lk_S_59 cm_S_price vm_S_price (c_S_price _ _ _ s p π x j t hπ0 ok hx0 xk hj ht0 ht1) hs rfl rfl rfl (Nat.le_of_ble_eq_true rfl) (Rm.mono hRm (by decide) (by decide)) ?_
    refine V_aload_n (pc := 18) C (dk k_S_canBuyBack 10 rfl) rfl ?_
    refine V_getr (pc := 19) (o2 := s + 1) C (dk k_S_canBuyBack 11 rfl) fl_S_9 hs (by decide) rfl (by decide) rfl ?_
    refine V_aload_n (pc := 22) C (dk k_S_canBuyBack 12 rfl) rfl ?_
    refine V_getr (pc := 23) (o2 := p + 2) C (dk k_S_canBuyBack 13 rfl) fl_S_63 hp (by decide) rfl (by decide) rfl ?_
    refine V_iload_n (pc := 26) C (dk k_S_canBuyBack 14 rfl) rfl ?_
    refine V_callS (pc := 27) C (dk k_S_canBuyBack 15 rfl) lk_S_44 cm_F_at sm_F_at (c_at _ _ _ (p + 2) 8 t hp_2 (by decide) ht0 (by omega)) rfl rfl (Nat.le_of_ble_eq_true rfl) (Rm.mono hRm (by decide) (by decide)) ?_
    refine V_callS (pc := 30) C (dk k_S_canBuyBack 16 rfl) lk_S_44 cm_F_at sm_F_at (c_at _ _ _ (s + 1) 5 _ hs_1 (by decide) (by rw [tO]; exact kO0) (by rw [tO]; omega)) rfl rfl (Nat.le_of_ble_eq_true rfl) (Rm.mono hRm (by decide) (by decide)) ?_
    rw [tO, fG]
    refine V_icmpgt (pc := 33) C (dk k_S_canBuyBack 17 rfl) 40 rfl ⟨by omega, by omega⟩ (by rw [← fG]; exact hR _ _) (fun h2 => ?_) (fun h2 => ?_)
    · skip
      refine V_iconst (pc := 40) C (dk k_S_canBuyBack 20 rfl) rfl ?_
      refine V_zret (pc := 41) C (by first | exact Or.inl rfl | exact Or.inr rfl | (split <;> first | exact Or.inl rfl | exact Or.inr rfl) | omega) E (dk k_S_canBuyBack 21 rfl) ?_
      refine ⟨?_, rfl⟩
      first | rw [if_pos ⟨by omega, by omega⟩] | rw [if_neg (fun q => by omega)]
    · skip
      refine V_iconst (pc := 36) C (dk k_S_canBuyBack 18 rfl) rfl ?_
      refine V_goto (pc := 37) C (dk k_S_canBuyBack 19 rfl) 41 rfl ?_
      refine V_zret (pc := 41) C (by first | exact Or.inl rfl | exact Or.inr rfl | (split <;> first | exact Or.inl rfl | exact Or.inr rfl) | omega) E (dk k_S_canBuyBack 21 rfl) ?_
      refine ⟨?_, rfl⟩
      first | rw [if_pos ⟨by omega, by omega⟩] | rw [if_neg (fun q => by omega)]

/-- a sum over the first numbers -/
def sm (f : Int → Int) : Nat → Int
  | 0 => 0
  | n + 1 => sm f n + f (n : Int)

def i_S_nearOfCellar : List (Nat × (Instr × Nat)) := [(0, (.iconst 0, 1)), (1, (.istore_n 2, 1)), (2, (.iconst 0, 1)), (3, (.istore_n 3, 1)), (4, (.iload_n 3, 1)), (5, (.aload_n 1, 1)), (6, (.getfield 70, 3)), (9, (.if_icmp .ge 32, 3)), (12, (.aload_n 0, 1)), (13, (.getfield 21, 3)), (16, (.iload_n 3, 1)), (17, (.invokestatic 44, 3)), (20, (.iconst 1, 1)), (21, (.if_icmp .ne 14, 3)), (24, (.iload_n 2, 1)), (25, (.aload_n 0, 1)), (26, (.getfield 18, 3)), (29, (.iload_n 3, 1)), (30, (.invokestatic 44, 3)), (33, (.iadd, 1)), (34, (.istore_n 2, 1)), (35, (.iinc 3 1, 3)), (38, (.goto (-34), 3)), (41, (.iload_n 2, 1)), (42, (.ireturn, 1))]
theorem k_S_nearOfCellar : i_S_nearOfCellar.all (fun q => decide (decode b_S_nearOfCellar q.1 = .ok q.2)) = true := by decide +kernel

set_option maxHeartbeats 1000000 in
set_option maxRecDepth 20000 in
theorem c_S_nearOfCellar (l : Launch) (G : GE) (σ : Wd) (s p : Nat) (π : PL) (x : ST) (j : Int) (hπ : PlR σ p π) (ok : PLok π) (hx : StR σ s π x) (xk : STok π x j) (hj : j ≤ 200) : Ct l G y_S_nearOfCellar b_S_nearOfCellar 4 (some (.int)) 1 21 [vR s, vR p] σ (Dt (some (vI (sm (fun t => if sP x t = 1 then sN x t else 0) (pN π)))) σ) := by
  refine Ct.of cm_S_nearOfCellar (Nat.le_of_ble_eq_true rfl) ?_
  intro X hXl hXG hXN hRm C E
  subst hXl; subst hXG
  show V X 0 [some (vR s), some (vR p), none, none] [] σ
  refine V_R (fun hR => ?_)
  have hπ0 := hπ
  have hx0 := hx
  obtain ⟨hp, e0, e2, e7, e10, eT, eX⟩ := hπ
  obtain ⟨hp_1, hp_2, hp_3, hp_4, hp_5, hp_6⟩ := kd_P hp
  have ⟨k1, k2, k3, k4, k5, k6, kT, kX⟩ := ok
  obtain ⟨hs, f0, f1, fQ, fT⟩ := hx
  obtain ⟨hs_1, hs_2, hs_3, hs_4⟩ := kd_S hs
  have ⟨x1, x2, x3, x4, xQ, xT⟩ := xk
  refine V_iconst (pc := 0) C (dk k_S_nearOfCellar 0 rfl) rfl ?_
  refine V_istore_n (pc := 1) C (dk k_S_nearOfCellar 1 rfl) (by rw [hXN]; decide) ?_
  dsimp only [lst, lstL, lz, kill, Fin.val, Nat.reduceAdd]
  refine V_iconst (pc := 2) C (dk k_S_nearOfCellar 2 rfl) rfl ?_
  refine V_istore_n (pc := 3) C (dk k_S_nearOfCellar 3 rfl) (by rw [hXN]; decide) ?_
  dsimp only [lst, lstL, lz, kill, Fin.val, Nat.reduceAdd]
  refine V_eq (V_loop (fun i : Nat => i ≤ pN π) (fun i => [some (vR s), some (vR p), some (vI (sm (fun t => if sP x t = 1 then sN x t else 0) i)), some (vI (i : Int))]) (fun _ => σ) (fun i => pN π - i) (fun i hi ih => ?_) 0 (Nat.zero_le _)) rfl rfl rfl
  refine V_iload_n (pc := 4) C (dk k_S_nearOfCellar 4 rfl) rfl ?_
  refine V_aload_n (pc := 5) C (dk k_S_nearOfCellar 5 rfl) rfl ?_
  refine V_geti (pc := 6) (ji := 2) C (dk k_S_nearOfCellar 6 rfl) fl_S_70 hp (by decide) rfl rfl ?_
  refine V_icmpge (pc := 9) C (dk k_S_nearOfCellar 7 rfl) 41 rfl (by first | assumption | exact hR _ _ | exact ⟨by omega, by omega⟩) (by first | assumption | exact hR _ _ | exact ⟨by omega, by omega⟩) (fun h1 => ?_) (fun h1 => ?_)
  · skip
    refine V_iload_n (pc := 41) C (dk k_S_nearOfCellar 23 rfl) rfl ?_
    refine V_iret (pc := 42) C E (dk k_S_nearOfCellar 24 rfl) ?_
    obtain rfl : i = pN π := by omega
    exact ⟨rfl, rfl⟩
  · skip
    obtain ⟨gN, gP⟩ := fT i (by omega) (by omega)
    refine V_aload_n (pc := 12) C (dk k_S_nearOfCellar 8 rfl) rfl ?_
    refine V_getr (pc := 13) (o2 := s + 4) C (dk k_S_nearOfCellar 9 rfl) fl_S_21 hs (by decide) rfl (by decide) rfl ?_
    refine V_iload_n (pc := 16) C (dk k_S_nearOfCellar 10 rfl) rfl ?_
    refine V_callS (pc := 17) C (dk k_S_nearOfCellar 11 rfl) lk_S_44 cm_F_at sm_F_at (c_at _ _ _ (s + 4) 8 _ hs_4 (by decide) (by omega) (by omega)) rfl rfl (Nat.le_of_ble_eq_true rfl) (Rm.mono hRm (by decide) (by decide)) ?_
    refine V_iconst (pc := 20) C (dk k_S_nearOfCellar 12 rfl) rfl ?_
    refine V_icmpne (pc := 21) C (dk k_S_nearOfCellar 13 rfl) 35 rfl (by first | assumption | exact hR _ _ | exact ⟨by omega, by omega⟩) (by first | assumption | exact hR _ _ | exact ⟨by omega, by omega⟩) (fun h2 => ?_) (fun h2 => ?_)
    · skip
      refine V_iinc (pc := 35) C (dk k_S_nearOfCellar 21 rfl) (by rw [hXN]; decide) rfl ?_
      dsimp only [lst, lstL, lz, kill, Fin.val, Nat.reduceAdd]
      refine V_goto (pc := 38) C (dk k_S_nearOfCellar 22 rfl) 4 rfl ?_
      refine V_eq (ih (i + 1) (by omega) (by omega)) ?_ rfl rfl
      show _ = [some (vR s), some (vR p), some (vI (sm (fun t => if sP x t = 1 then sN x t else 0) i + (fun t => if sP x t = 1 then sN x t else 0) (i : Int))), some (vI ((i : Int) + 1))]
      dsimp only
      first | rw [if_pos (by omega), gN] | rw [if_neg (by omega), Int.add_zero]
    · skip
      refine V_iload_n (pc := 24) C (dk k_S_nearOfCellar 14 rfl) rfl ?_
      refine V_aload_n (pc := 25) C (dk k_S_nearOfCellar 15 rfl) rfl ?_
      refine V_getr (pc := 26) (o2 := s + 3) C (dk k_S_nearOfCellar 16 rfl) fl_S_18 hs (by decide) rfl (by decide) rfl ?_
      refine V_iload_n (pc := 29) C (dk k_S_nearOfCellar 17 rfl) rfl ?_
      refine V_callS (pc := 30) C (dk k_S_nearOfCellar 18 rfl) lk_S_44 cm_F_at sm_F_at (c_at _ _ _ (s + 3) 8 _ hs_3 (by decide) (by omega) (by omega)) rfl rfl (Nat.le_of_ble_eq_true rfl) (Rm.mono hRm (by decide) (by decide)) ?_
      refine V_iadd (pc := 33) C (dk k_S_nearOfCellar 19 rfl) ?_
      refine V_istore_n (pc := 34) C (dk k_S_nearOfCellar 20 rfl) (by rw [hXN]; decide) ?_
      dsimp only [lst, lstL, lz, kill, Fin.val, Nat.reduceAdd]
      refine V_iinc (pc := 35) C (dk k_S_nearOfCellar 21 rfl) (by rw [hXN]; decide) rfl ?_
      dsimp only [lst, lstL, lz, kill, Fin.val, Nat.reduceAdd]
      refine V_goto (pc := 38) C (dk k_S_nearOfCellar 22 rfl) 4 rfl ?_
      refine V_eq (ih (i + 1) (by omega) (by omega)) ?_ rfl rfl
      show _ = [some (vR s), some (vR p), some (vI (sm (fun t => if sP x t = 1 then sN x t else 0) i + (fun t => if sP x t = 1 then sN x t else 0) (i : Int))), some (vI ((i : Int) + 1))]
      dsimp only
      first | rw [if_pos (by omega), gN] | rw [if_neg (by omega), Int.add_zero]

def i_S_rueOfAll : List (Nat × (Instr × Nat)) := [(0, (.iconst 0, 1)), (1, (.istore_n 2, 1)), (2, (.iconst 0, 1)), (3, (.istore_n 3, 1)), (4, (.iload_n 3, 1)), (5, (.aload_n 1, 1)), (6, (.getfield 87, 3)), (9, (.if_icmp .ge 20, 3)), (12, (.iload_n 2, 1)), (13, (.aload_n 0, 1)), (14, (.getfield 15, 3)), (17, (.iload_n 3, 1)), (18, (.invokestatic 44, 3)), (21, (.iadd, 1)), (22, (.istore_n 2, 1)), (23, (.iinc 3 1, 3)), (26, (.goto (-22), 3)), (29, (.iload_n 2, 1)), (30, (.ireturn, 1))]
theorem k_S_rueOfAll : i_S_rueOfAll.all (fun q => decide (decode b_S_rueOfAll q.1 = .ok q.2)) = true := by decide +kernel

set_option maxHeartbeats 1000000 in
set_option maxRecDepth 20000 in
theorem c_S_rueOfAll (l : Launch) (G : GE) (σ : Wd) (s p : Nat) (π : PL) (x : ST) (j : Int) (hπ : PlR σ p π) (ok : PLok π) (hx : StR σ s π x) (xk : STok π x j) (hj : j ≤ 200) : Ct l G y_S_rueOfAll b_S_rueOfAll 4 (some (.int)) 1 21 [vR s, vR p] σ (Dt (some (vI (sm (fun q => sR x q) (pP π)))) σ) := by
  refine Ct.of cm_S_rueOfAll (Nat.le_of_ble_eq_true rfl) ?_
  intro X hXl hXG hXN hRm C E
  subst hXl; subst hXG
  show V X 0 [some (vR s), some (vR p), none, none] [] σ
  refine V_R (fun hR => ?_)
  have hπ0 := hπ
  have hx0 := hx
  obtain ⟨hp, e0, e2, e7, e10, eT, eX⟩ := hπ
  obtain ⟨hp_1, hp_2, hp_3, hp_4, hp_5, hp_6⟩ := kd_P hp
  have ⟨k1, k2, k3, k4, k5, k6, kT, kX⟩ := ok
  obtain ⟨hs, f0, f1, fQ, fT⟩ := hx
  obtain ⟨hs_1, hs_2, hs_3, hs_4⟩ := kd_S hs
  have ⟨x1, x2, x3, x4, xQ, xT⟩ := xk
  refine V_iconst (pc := 0) C (dk k_S_rueOfAll 0 rfl) rfl ?_
  refine V_istore_n (pc := 1) C (dk k_S_rueOfAll 1 rfl) (by rw [hXN]; decide) ?_
  dsimp only [lst, lstL, lz, kill, Fin.val, Nat.reduceAdd]
  refine V_iconst (pc := 2) C (dk k_S_rueOfAll 2 rfl) rfl ?_
  refine V_istore_n (pc := 3) C (dk k_S_rueOfAll 3 rfl) (by rw [hXN]; decide) ?_
  dsimp only [lst, lstL, lz, kill, Fin.val, Nat.reduceAdd]
  refine V_eq (V_loop (fun i : Nat => i ≤ pP π) (fun i => [some (vR s), some (vR p), some (vI (sm (fun q => sR x q) i)), some (vI (i : Int))]) (fun _ => σ) (fun i => pP π - i) (fun i hi ih => ?_) 0 (Nat.zero_le _)) rfl rfl rfl
  refine V_iload_n (pc := 4) C (dk k_S_rueOfAll 4 rfl) rfl ?_
  refine V_aload_n (pc := 5) C (dk k_S_rueOfAll 5 rfl) rfl ?_
  refine V_geti (pc := 6) (ji := 0) C (dk k_S_rueOfAll 6 rfl) fl_S_87 hp (by decide) rfl rfl ?_
  refine V_icmpge (pc := 9) C (dk k_S_rueOfAll 7 rfl) 29 rfl (by first | assumption | exact hR _ _ | exact ⟨by omega, by omega⟩) (by first | assumption | exact hR _ _ | exact ⟨by omega, by omega⟩) (fun h1 => ?_) (fun h1 => ?_)
  · skip
    refine V_iload_n (pc := 29) C (dk k_S_rueOfAll 17 rfl) rfl ?_
    refine V_iret (pc := 30) C E (dk k_S_rueOfAll 18 rfl) ?_
    obtain rfl : i = pP π := by omega
    exact ⟨rfl, rfl⟩
  · skip
    obtain ⟨gG, gR⟩ := fQ i (by omega) (by omega)
    refine V_iload_n (pc := 12) C (dk k_S_rueOfAll 8 rfl) rfl ?_
    refine V_aload_n (pc := 13) C (dk k_S_rueOfAll 9 rfl) rfl ?_
    refine V_getr (pc := 14) (o2 := s + 2) C (dk k_S_rueOfAll 10 rfl) fl_S_15 hs (by decide) rfl (by decide) rfl ?_
    refine V_iload_n (pc := 17) C (dk k_S_rueOfAll 11 rfl) rfl ?_
    refine V_callS (pc := 18) C (dk k_S_rueOfAll 12 rfl) lk_S_44 cm_F_at sm_F_at (c_at _ _ _ (s + 2) 5 _ hs_2 (by decide) (by omega) (by omega)) rfl rfl (Nat.le_of_ble_eq_true rfl) (Rm.mono hRm (by decide) (by decide)) ?_
    refine V_iadd (pc := 21) C (dk k_S_rueOfAll 13 rfl) ?_
    refine V_istore_n (pc := 22) C (dk k_S_rueOfAll 14 rfl) (by rw [hXN]; decide) ?_
    dsimp only [lst, lstL, lz, kill, Fin.val, Nat.reduceAdd]
    refine V_iinc (pc := 23) C (dk k_S_rueOfAll 15 rfl) (by rw [hXN]; decide) rfl ?_
    dsimp only [lst, lstL, lz, kill, Fin.val, Nat.reduceAdd]
    refine V_goto (pc := 26) C (dk k_S_rueOfAll 16 rfl) 4 rfl ?_
    refine V_eq (ih (i + 1) (by omega) (by omega)) ?_ rfl rfl
    show _ = [some (vR s), some (vR p), some (vI (sm (fun q => sR x q) i + sR x (i : Int))), some (vI ((i : Int) + 1))]
    rw [gR]

def i_S_howMany : List (Nat × (Instr × Nat)) := [(0, (.iconst 0, 1)), (1, (.istore_n 3, 1)), (2, (.iconst 0, 1)), (3, (.istore 4, 2)), (5, (.iload 4, 2)), (7, (.aload_n 1, 1)), (8, (.getfield 70, 3)), (11, (.if_icmp .ge 25, 3)), (14, (.aload_n 0, 1)), (15, (.getfield 21, 3)), (18, (.iload 4, 2)), (20, (.invokestatic 44, 3)), (23, (.iload_n 2, 1)), (24, (.if_icmp .ne 6, 3)), (27, (.iinc 3 1, 3)), (30, (.iinc 4 1, 3)), (33, (.goto (-28), 3)), (36, (.iload_n 3, 1)), (37, (.ireturn, 1))]
theorem k_S_howMany : i_S_howMany.all (fun q => decide (decode b_S_howMany q.1 = .ok q.2)) = true := by decide +kernel

set_option maxHeartbeats 1000000 in
set_option maxRecDepth 20000 in
theorem c_S_howMany (l : Launch) (G : GE) (σ : Wd) (s p : Nat) (π : PL) (x : ST) (j : Int) (hπ : PlR σ p π) (ok : PLok π) (hx : StR σ s π x) (xk : STok π x j) (hj : j ≤ 200) (k : Int) (hk : inR k) : Ct l G y_S_howMany b_S_howMany 5 (some (.int)) 1 21 [vR s, vR p, vI k] σ (Dt (some (vI (sm (fun t => if sP x t = k then 1 else 0) (pN π)))) σ) := by
  refine Ct.of cm_S_howMany (Nat.le_of_ble_eq_true rfl) ?_
  intro X hXl hXG hXN hRm C E
  subst hXl; subst hXG
  have ⟨hk_1, hk_2⟩ := hk
  show V X 0 [some (vR s), some (vR p), some (vI k), none, none] [] σ
  refine V_R (fun hR => ?_)
  have hπ0 := hπ
  have hx0 := hx
  obtain ⟨hp, e0, e2, e7, e10, eT, eX⟩ := hπ
  obtain ⟨hp_1, hp_2, hp_3, hp_4, hp_5, hp_6⟩ := kd_P hp
  have ⟨k1, k2, k3, k4, k5, k6, kT, kX⟩ := ok
  obtain ⟨hs, f0, f1, fQ, fT⟩ := hx
  obtain ⟨hs_1, hs_2, hs_3, hs_4⟩ := kd_S hs
  have ⟨x1, x2, x3, x4, xQ, xT⟩ := xk
  refine V_iconst (pc := 0) C (dk k_S_howMany 0 rfl) rfl ?_
  refine V_istore_n (pc := 1) C (dk k_S_howMany 1 rfl) (by rw [hXN]; decide) ?_
  dsimp only [lst, lstL, lz, kill, Fin.val, Nat.reduceAdd]
  refine V_iconst (pc := 2) C (dk k_S_howMany 2 rfl) rfl ?_
  refine V_istore (pc := 3) C (dk k_S_howMany 3 rfl) (by rw [hXN]; decide) ?_
  dsimp only [lst, lstL, lz, kill, Fin.val, Nat.reduceAdd]
  refine V_eq (V_loop (fun i : Nat => i ≤ pN π) (fun i => [some (vR s), some (vR p), some (vI k), some (vI (sm (fun t => if sP x t = k then 1 else 0) i)), some (vI (i : Int))]) (fun _ => σ) (fun i => pN π - i) (fun i hi ih => ?_) 0 (Nat.zero_le _)) rfl rfl rfl
  refine V_iload (pc := 5) C (dk k_S_howMany 4 rfl) rfl ?_
  refine V_aload_n (pc := 7) C (dk k_S_howMany 5 rfl) rfl ?_
  refine V_geti (pc := 8) (ji := 2) C (dk k_S_howMany 6 rfl) fl_S_70 hp (by decide) rfl rfl ?_
  refine V_icmpge (pc := 11) C (dk k_S_howMany 7 rfl) 36 rfl (by first | assumption | exact hR _ _ | exact ⟨by omega, by omega⟩) (by first | assumption | exact hR _ _ | exact ⟨by omega, by omega⟩) (fun h1 => ?_) (fun h1 => ?_)
  · skip
    refine V_iload_n (pc := 36) C (dk k_S_howMany 17 rfl) rfl ?_
    refine V_iret (pc := 37) C E (dk k_S_howMany 18 rfl) ?_
    obtain rfl : i = pN π := by omega
    exact ⟨rfl, rfl⟩
  · skip
    obtain ⟨gN, gP⟩ := fT i (by omega) (by omega)
    refine V_aload_n (pc := 14) C (dk k_S_howMany 8 rfl) rfl ?_
    refine V_getr (pc := 15) (o2 := s + 4) C (dk k_S_howMany 9 rfl) fl_S_21 hs (by decide) rfl (by decide) rfl ?_
    refine V_iload (pc := 18) C (dk k_S_howMany 10 rfl) rfl ?_
    refine V_callS (pc := 20) C (dk k_S_howMany 11 rfl) lk_S_44 cm_F_at sm_F_at (c_at _ _ _ (s + 4) 8 _ hs_4 (by decide) (by omega) (by omega)) rfl rfl (Nat.le_of_ble_eq_true rfl) (Rm.mono hRm (by decide) (by decide)) ?_
    refine V_iload_n (pc := 23) C (dk k_S_howMany 12 rfl) rfl ?_
    refine V_icmpne (pc := 24) C (dk k_S_howMany 13 rfl) 30 rfl (by first | assumption | exact hR _ _ | exact ⟨by omega, by omega⟩) (by first | assumption | exact hR _ _ | exact ⟨by omega, by omega⟩) (fun h2 => ?_) (fun h2 => ?_)
    · skip
      refine V_iinc (pc := 30) C (dk k_S_howMany 15 rfl) (by rw [hXN]; decide) rfl ?_
      dsimp only [lst, lstL, lz, kill, Fin.val, Nat.reduceAdd]
      refine V_goto (pc := 33) C (dk k_S_howMany 16 rfl) 5 rfl ?_
      refine V_eq (ih (i + 1) (by omega) (by omega)) ?_ rfl rfl
      show _ = [some (vR s), some (vR p), some (vI k), some (vI (sm (fun t => if sP x t = k then 1 else 0) i + (fun t => if sP x t = k then 1 else 0) (i : Int))), some (vI ((i : Int) + 1))]
      dsimp only
      first | rw [if_pos (by omega)] | rw [if_neg (by omega), Int.add_zero]
    · skip
      refine V_iinc (pc := 27) C (dk k_S_howMany 14 rfl) (by rw [hXN]; decide) rfl ?_
      dsimp only [lst, lstL, lz, kill, Fin.val, Nat.reduceAdd]
      refine V_iinc (pc := 30) C (dk k_S_howMany 15 rfl) (by rw [hXN]; decide) rfl ?_
      dsimp only [lst, lstL, lz, kill, Fin.val, Nat.reduceAdd]
      refine V_goto (pc := 33) C (dk k_S_howMany 16 rfl) 5 rfl ?_
      refine V_eq (ih (i + 1) (by omega) (by omega)) ?_ rfl rfl
      show _ = [some (vR s), some (vR p), some (vI k), some (vI (sm (fun t => if sP x t = k then 1 else 0) i + (fun t => if sP x t = k then 1 else 0) (i : Int))), some (vI ((i : Int) + 1))]
      dsimp only
      first | rw [if_pos (by omega)] | rw [if_neg (by omega), Int.add_zero]
