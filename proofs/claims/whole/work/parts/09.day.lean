theorem sm_b (f : Int → Int) (c : Int) (hc : 0 ≤ c) : ∀ n : Nat, (∀ t : Int, 0 ≤ t → t < n → 0 ≤ f t ∧ f t ≤ c) → 0 ≤ sm f n ∧ sm f n ≤ c * n
  | 0, _ => by simp [sm]
  | n + 1, h => by
    obtain ⟨h1, h2⟩ := sm_b f c hc n (fun t a b => h t a (by omega))
    obtain ⟨h3, h4⟩ := h n (by omega) (by omega)
    show 0 ≤ sm f n + f n ∧ sm f n + f n ≤ c * ((n + 1 : Nat) : Int)
    have e : c * ((n + 1 : Nat) : Int) = c * n + c := by rw [Int.natCast_add, Int.mul_add]; simp
    omega
theorem sm_cg (f g : Int → Int) : ∀ n : Nat, (∀ t : Int, 0 ≤ t → t < n → f t = g t) → sm f n = sm g n
  | 0, _ => rfl
  | n + 1, h => by
    show sm f n + f n = sm g n + g n
    rw [sm_cg f g n (fun t a b => h t a (by omega)), h n (by omega) (by omega)]
theorem nxR_b {π : PL} {x : ST} {j q : Int} {n : Nat} (ok : PLok π) (xk : STok π x j) (h0 : 0 ≤ q) (h1 : q < pP π) (hn : n ≤ pN π) : 0 ≤ nxR π x q n ∧ nxR π x q n ≤ sR x q + 20 * n := by
  obtain ⟨k1, k2, k3, k4, k5, k6, kT, kX⟩ := ok
  obtain ⟨x1, x2, x3, x4, xQ, xT⟩ := xk
  obtain ⟨b1, b2⟩ := sm_b (fun t => if nxP π x t ≠ 0 ∧ pO π t = q then pU π t else 0) 20 (by omega) n (fun t a b => by
    obtain ⟨-, -, -, -, c1, c2⟩ := kT t a (by omega)
    split <;> omega)
  have := xQ q h0 h1
  unfold nxR
  omega
/-- within a day: the thing i has gone on, its rue isn't counted yet -/
def dayM (π : PL) (x : ST) (i : Nat) : ST := (sD x, (sM x, (sG x, (fun q => nxR π x q i, (fun t => if t < i + 1 then nxN π x t else sN x t, fun t => if t < i + 1 then nxP π x t else sP x t)))))
theorem dayI_N (π : PL) (x : ST) (i : Nat) : sN (dayI π x i) (i : Int) = sN x i := if_neg (by omega)
theorem dayI_P (π : PL) (x : ST) (i : Nat) : sP (dayI π x i) (i : Int) = sP x i := if_neg (by omega)
theorem dayM_P (π : PL) (x : ST) (i : Nat) : sP (dayM π x i) (i : Int) = nxP π x i := if_pos (by omega)
theorem dayM_A {π : PL} {x : ST} {i s : Nat} {τ : Wd} (hp : sP x i = 1) (h : StR τ s π (sD (dayI π x i), (sM (dayI π x i), (sG (dayI π x i), (sR (dayI π x i), (fu (sN (dayI π x i)) i (nx (pK π i) (sN (dayI π x i) i) (sD (dayI π x i))), if nx (pK π i) (sN (dayI π x i) i) (sD (dayI π x i)) = 0 then fu (sP (dayI π x i)) i 2 else sP (dayI π x i))))))) : StR τ s π (dayM π x i) := by
  refine h.cg rfl rfl (fun q a b => ⟨rfl, rfl⟩) (fun t a b => ?_)
  rw [dayI_N]
  have e1 : nxN π x i = nx (pK π i) (sN x i) (sD x) := if_pos hp
  have e2 : nxP π x i = if nx (pK π i) (sN x i) (sD x) = 0 then 2 else 1 := if_pos hp
  by_cases ht : t = i
  · subst ht
    constructor
    · show fu _ _ _ _ = if (i : Int) < i + 1 then nxN π x i else sN x i
      unfold fu; rw [if_pos rfl, if_pos (by omega), e1]; rfl
    · show (if nx (pK π i) (sN x i) (sD x) = 0 then fu (sP (dayI π x i)) i 2 else sP (dayI π x i)) (i : Int) = (if (i : Int) < i + 1 then nxP π x i else sP x i)
      by_cases hz : nx (pK π i) (sN x i) (sD x) = 0
      · rw [if_pos hz] at e2 ⊢; rw [if_pos (show (i : Int) < i + 1 by omega), e2]; unfold fu; rw [if_pos rfl]
      · rw [if_neg hz] at e2 ⊢; rw [if_pos (show (i : Int) < i + 1 by omega), e2, dayI_P, hp]
  · have e3 : ∀ z : Int, (if t < (i : Int) + 1 then z else sN x t) = if t < (i : Int) then z else sN x t := fun z => by
      by_cases h : t < (i : Int)
      · rw [if_pos h, if_pos (by omega)]
      · rw [if_neg h, if_neg (by omega)]
    have e4 : ∀ z : Int, (if t < (i : Int) + 1 then z else sP x t) = if t < (i : Int) then z else sP x t := fun z => by
      by_cases h : t < (i : Int)
      · rw [if_pos h, if_pos (by omega)]
      · rw [if_neg h, if_neg (by omega)]
    constructor
    · show fu _ _ _ _ = if t < (i : Int) + 1 then nxN π x t else sN x t
      unfold fu; rw [if_neg ht, e3]; rfl
    · show (if nx (pK π i) (sN x i) (sD x) = 0 then fu (sP (dayI π x i)) i 2 else sP (dayI π x i)) t = (if t < (i : Int) + 1 then nxP π x t else sP x t)
      rw [e4]
      by_cases hz : nx (pK π i) (sN x i) (sD x) = 0
      · rw [if_pos hz]; show (if t = (i : Int) then _ else _) = _; rw [if_neg ht]; rfl
      · rw [if_neg hz]; rfl
theorem dayM_B {π : PL} {x : ST} {i s : Nat} {τ : Wd} (hp : ¬ sP x i = 1) (h : StR τ s π (dayI π x i)) : StR τ s π (dayM π x i) := by
  have e1 : nxN π x i = sN x i := if_neg hp
  have e2 : nxP π x i = sP x i := if_neg hp
  refine h.cg rfl rfl (fun q a b => ⟨rfl, rfl⟩) (fun t a b => ?_)
  by_cases ht : t = i
  · subst ht
    exact ⟨by rw [dayI_N]; show _ = if (i : Int) < i + 1 then nxN π x i else sN x i; rw [if_pos (by omega), e1], by rw [dayI_P, dayM_P, e2]⟩
  · constructor
    · show (if t < (i : Int) then _ else _) = if t < (i : Int) + 1 then _ else _
      by_cases h : t < (i : Int)
      · rw [if_pos h, if_pos (by omega)]
      · rw [if_neg h, if_neg (by omega)]
    · show (if t < (i : Int) then _ else _) = if t < (i : Int) + 1 then _ else _
      by_cases h : t < (i : Int)
      · rw [if_pos h, if_pos (by omega)]
      · rw [if_neg h, if_neg (by omega)]
theorem nxR_s (π : PL) (x : ST) (q : Int) (i : Nat) : nxR π x q (i + 1) = nxR π x q i + (if nxP π x i ≠ 0 ∧ pO π i = q then pU π i else 0) := by
  unfold nxR; show _ + (_ + _) = _; rw [Int.add_assoc]
theorem dayN_A {π : PL} {x : ST} {i s : Nat} {τ : Wd} (hne : nxP π x i ≠ 0) (h : StR τ s π (dayM π x i)) : StR (up τ (s + 2) (pO π i) (nxR π x (pO π i) i + pU π i)) s π (dayI π x (i + 1)) := by
  refine (h.upR _ _).cg rfl rfl (fun q a b => ⟨rfl, ?_⟩) (fun t a b => ⟨rfl, rfl⟩)
  show fu _ _ _ _ = nxR π x q (i + 1)
  rw [nxR_s]
  unfold fu
  by_cases hq : q = pO π i
  · rw [if_pos hq, if_pos ⟨hne, hq.symm⟩, hq]
  · rw [if_neg hq, if_neg (fun z => hq z.2.symm), Int.add_zero]; rfl
theorem dayN_B {π : PL} {x : ST} {i s : Nat} {τ : Wd} (heq : nxP π x i = 0) (h : StR τ s π (dayM π x i)) : StR τ s π (dayI π x (i + 1)) := by
  refine h.cg rfl rfl (fun q a b => ⟨rfl, ?_⟩) (fun t a b => ⟨rfl, rfl⟩)
  show nxR π x q i = nxR π x q (i + 1)
  rw [nxR_s, if_neg (fun z => z.1 heq), Int.add_zero]
theorem dayI_0 (π : PL) (x : ST) {s : Nat} {τ : Wd} (h : StR τ s π x) : StR τ s π (dayI π x 0) := by
  refine h.cg rfl rfl (fun q a b => ⟨rfl, ?_⟩) (fun t a b => ⟨?_, ?_⟩)
  · show _ = nxR π x q 0; unfold nxR sm; omega
  · show _ = if t < ((0 : Nat) : Int) then _ else _; rw [if_neg (by omega)]
  · show _ = if t < ((0 : Nat) : Int) then _ else _; rw [if_neg (by omega)]
theorem dayI_N' {π : PL} {x : ST} {s : Nat} {τ : Wd} (h : StR τ s π (dayI π x (pN π))) (v : Int) (hv : v = sD x + 1) : StR (up τ s 0 v) s π (dayX π x) := by
  subst hv
  refine (h.upD _).cg rfl rfl (fun q a b => ⟨rfl, rfl⟩) (fun t a b => ⟨?_, ?_⟩)
  · show (if t < _ then _ else _) = _; rw [if_pos b]; rfl
  · show (if t < _ then _ else _) = _; rw [if_pos b]; rfl

def i_S_passDay : List (Nat × (Instr × Nat)) := [(0, (.iconst 0, 1)), (1, (.istore_n 2, 1)), (2, (.iload_n 2, 1)), (3, (.aload_n 1, 1)), (4, (.getfield 70, 3)), (7, (.if_icmp .ge 72, 3)), (10, (.aload_n 0, 1)), (11, (.getfield 21, 3)), (14, (.iload_n 2, 1)), (15, (.invokestatic 44, 3)), (18, (.iconst 1, 1)), (19, (.if_icmp .ne 9, 3)), (22, (.aload_n 0, 1)), (23, (.aload_n 1, 1)), (24, (.iload_n 2, 1)), (25, (.invokevirtual 73, 3)), (28, (.aload_n 0, 1)), (29, (.getfield 21, 3)), (32, (.iload_n 2, 1)), (33, (.invokestatic 44, 3)), (36, (.ifCond .eq 37, 3)), (39, (.aload_n 1, 1)), (40, (.getfield 63, 3)), (43, (.iload_n 2, 1)), (44, (.invokestatic 44, 3)), (47, (.istore_n 3, 1)), (48, (.aload_n 0, 1)), (49, (.getfield 15, 3)), (52, (.iload_n 3, 1)), (53, (.aload_n 0, 1)), (54, (.getfield 15, 3)), (57, (.iload_n 3, 1)), (58, (.invokestatic 44, 3)), (61, (.aload_n 1, 1)), (62, (.getfield 77, 3)), (65, (.iload_n 2, 1)), (66, (.invokestatic 44, 3)), (69, (.iadd, 1)), (70, (.invokestatic 40, 3)), (73, (.iinc 2 1, 3)), (76, (.goto (-74), 3)), (79, (.aload_n 0, 1)), (80, (.dup, 1)), (81, (.getfield 24, 3)), (84, (.iconst 1, 1)), (85, (.iadd, 1)), (86, (.putfield 24, 3)), (89, (.return_, 1))]
theorem k_S_passDay : i_S_passDay.all (fun q => decide (decode b_S_passDay q.1 = .ok q.2)) = true := by decide +kernel

set_option maxHeartbeats 1000000 in
set_option maxRecDepth 20000 in
theorem c_S_passDay (l : Launch) (G : GE) (σ : Wd) (s p : Nat) (π : PL) (x : ST) (j : Int) (hπ : PlR σ p π) (ok : PLok π) (hx : StR σ s π x) (xk : STok π x j) (hj : j ≤ 200) : Ct l G y_S_passDay b_S_passDay 4 (none) 3 71 [vR s, vR p] σ (Rt none (fun σ' => StR σ' s π (dayX π x) ∧ Fr s 5 σ σ')) := by
  refine Ct.of cm_S_passDay (Nat.le_of_ble_eq_true rfl) ?_
  intro X hXl hXG hXN hRm C E
  subst hXl; subst hXG
  show V X 0 [some (vR s), some (vR p), none, none] [] σ
  refine V_R (fun hR => ?_)
  have hπ0 := hπ
  have hx0 := hx
  obtain ⟨hp, e0, e2, e7, e10, eT, eX⟩ := hπ
  obtain ⟨hp_1, hp_2, hp_3, hp_4, hp_5, hp_6⟩ := kd_P hp
  have ⟨k1, k2, k3, k4, k5, k6, kT, kX⟩ := ok
  obtain ⟨hs, f0, f1, fQ, fT⟩ := hx
  obtain ⟨hs_1, hs_2, hs_3, hs_4⟩ := kd_S hs
  have ⟨x1, x2, x3, x4, xQ, xT⟩ := xk
  refine V_iconst (pc := 0) C (dk k_S_passDay 0 rfl) rfl ?_
  refine V_istore_n (pc := 1) C (dk k_S_passDay 1 rfl) (by rw [hXN]; decide) ?_
  dsimp only [lst, lstL, lz, kill, Fin.val, Nat.reduceAdd]
  refine V_eq (V_loop (fun q : Nat × Wd => q.1 ≤ pN π ∧ StR q.2 s π (dayI π x q.1) ∧ Fr s 5 σ q.2) (fun q => [some (vR s), some (vR p), some (vI (q.1 : Int)), none]) (fun q => q.2) (fun q => pN π - q.1) (fun q hq ih => ?_) (0, σ) ⟨Nat.zero_le _, dayI_0 π x hx0, Fr.rf _ _ _⟩) rfl rfl rfl
  obtain ⟨i, τ⟩ := q
  obtain ⟨hi, hx1, hfr⟩ := hq
  dsimp only at hi hx1 hfr ih ⊢
  refine V_R (fun hR => ?_)
  have hπ1 := hπ0.st hs hfr
  obtain ⟨-, g0, g2, g7, g10, gT, gX⟩ := id hπ1
  obtain ⟨-, q0, q1, qQ, qT⟩ := id hx1
  refine V_iload_n (pc := 2) C (dk k_S_passDay 2 rfl) rfl ?_
  refine V_aload_n (pc := 3) C (dk k_S_passDay 3 rfl) rfl ?_
  refine V_geti (pc := 4) (ji := 2) C (dk k_S_passDay 4 rfl) fl_S_70 hp (by decide) rfl rfl ?_
  refine V_icmpge (pc := 7) C (dk k_S_passDay 5 rfl) 79 rfl (by first | assumption | exact hR _ _ | exact ⟨by omega, by omega⟩) (by first | assumption | exact hR _ _ | exact ⟨by omega, by omega⟩) (fun h1 => ?_) (fun h1 => ?_)
  · skip
    have qd : sD (dayI π x i) = sD x := rfl
    refine V_aload_n (pc := 79) C (dk k_S_passDay 41 rfl) rfl ?_
    refine V_dupR (pc := 80) C (dk k_S_passDay 42 rfl) ?_
    refine V_geti (pc := 81) (ji := 0) C (dk k_S_passDay 43 rfl) fl_S_24 hs (by decide) rfl rfl ?_
    refine V_iconst (pc := 84) C (dk k_S_passDay 44 rfl) rfl ?_
    refine V_iadd (pc := 85) C (dk k_S_passDay 45 rfl) ?_
    refine V_puti (pc := 86) (ji := 0) C (dk k_S_passDay 46 rfl) fl_S_24 fw_7_0 hs (by decide) rfl rfl ⟨by omega, by omega⟩ ?_
    refine V_R (fun hR => ?_)
    refine V_vret (pc := 89) C E (dk k_S_passDay 47 rfl) ?_
    obtain rfl : i = pN π := by omega
    refine ⟨rfl, dayI_N' hx1 _ (by rw [q0]; rfl), hfr.up _ _ (by omega) (by omega)⟩
  · skip
    obtain ⟨gN, gP⟩ := qT i (by omega) (by omega)
    rw [dayI_N] at gN
    rw [dayI_P] at gP
    obtain ⟨xN0, xN1, xP0, xP1, xPN⟩ := xT i (by omega) (by omega)
    obtain ⟨kO0, kO1, kK0, kK1, kU0, kU1⟩ := kT i (by omega) (by omega)
    refine V_aload_n (pc := 10) C (dk k_S_passDay 6 rfl) rfl ?_
    refine V_getr (pc := 11) (o2 := s + 4) C (dk k_S_passDay 7 rfl) fl_S_21 hs (by decide) rfl (by decide) rfl ?_
    refine V_iload_n (pc := 14) C (dk k_S_passDay 8 rfl) rfl ?_
    refine V_callS (pc := 15) C (dk k_S_passDay 9 rfl) lk_S_44 cm_F_at sm_F_at (c_at _ _ _ (s + 4) 8 i hs_4 (by decide) (by omega) (by omega)) rfl rfl (Nat.le_of_ble_eq_true rfl) (Rm.mono hRm (by decide) (by decide)) ?_
    refine V_iconst (pc := 18) C (dk k_S_passDay 10 rfl) rfl ?_
    refine V_icmpne (pc := 19) C (dk k_S_passDay 11 rfl) 28 rfl (by first | assumption | exact hR _ _ | exact ⟨by omega, by omega⟩) (by first | assumption | exact hR _ _ | exact ⟨by omega, by omega⟩) (fun h2 => ?_) (fun h2 => ?_)
    · skip
      first | (have hy := dayM_A (by omega) hq1.1; have hfr2 := hfr.tr hq1.2) | (have hy := dayM_B (by omega) hx1; have hfr2 := hfr)
      have hπ2 := hπ0.st hs hfr2
      obtain ⟨-, -, -, -, -, rT, -⟩ := id hπ2
      obtain ⟨rO, rK, rU⟩ := rT i (by omega) (by omega)
      obtain ⟨-, -, -, yQ, yT⟩ := id hy
      have yP := (yT i (by omega) (by omega)).2
      rw [dayM_P] at yP
      have yR := (yQ (pO π i) kO0 kO1).2
      have yR : _ = nxR π x (pO π i) i := yR
      have ⟨nb0, nb1⟩ := nxR_b ok xk kO0 kO1 (show i ≤ pN π by omega)
      have nb2 := (xQ _ kO0 kO1).2.2.2
      refine V_aload_n (pc := 28) C (dk k_S_passDay 16 rfl) rfl ?_
      refine V_getr (pc := 29) (o2 := s + 4) C (dk k_S_passDay 17 rfl) fl_S_21 hs (by decide) rfl (by decide) rfl ?_
      refine V_iload_n (pc := 32) C (dk k_S_passDay 18 rfl) rfl ?_
      refine V_callS (pc := 33) C (dk k_S_passDay 19 rfl) lk_S_44 cm_F_at sm_F_at (c_at _ _ _ (s + 4) 8 i hs_4 (by decide) (by omega) (by omega)) rfl rfl (Nat.le_of_ble_eq_true rfl) (Rm.mono hRm (by decide) (by decide)) ?_
      refine V_ifeq (pc := 36) C (dk k_S_passDay 20 rfl) 73 rfl (by first | assumption | exact hR _ _ | exact ⟨by omega, by omega⟩) (fun h3 => ?_) (fun h3 => ?_)
      · skip
        refine V_iinc (pc := 73) C (dk k_S_passDay 39 rfl) (by rw [hXN]; decide) rfl ?_
        dsimp only [lst, lstL, lz, kill, Fin.val, Nat.reduceAdd]
        refine V_goto (pc := 76) C (dk k_S_passDay 40 rfl) 2 rfl ?_
        try (refine V_fg 3 ?_; dsimp only [fg])
        first | exact ih (i + 1, _) ⟨by dsimp only; omega, dayN_A (by omega) hy, (hfr2.up _ _ (by omega) (by omega))⟩ (by dsimp only; omega) | exact ih (i + 1, _) ⟨by dsimp only; omega, dayN_B (by omega) hy, hfr2⟩ (by dsimp only; omega)
      · skip
        refine V_aload_n (pc := 39) C (dk k_S_passDay 21 rfl) rfl ?_
        refine V_getr (pc := 40) (o2 := p + 2) C (dk k_S_passDay 22 rfl) fl_S_63 hp (by decide) rfl (by decide) rfl ?_
        refine V_iload_n (pc := 43) C (dk k_S_passDay 23 rfl) rfl ?_
        refine V_callS (pc := 44) C (dk k_S_passDay 24 rfl) lk_S_44 cm_F_at sm_F_at (c_at _ _ _ (p + 2) 8 i hp_2 (by decide) (by omega) (by omega)) rfl rfl (Nat.le_of_ble_eq_true rfl) (Rm.mono hRm (by decide) (by decide)) ?_
        rw [rO]
        refine V_istore_n (pc := 47) C (dk k_S_passDay 25 rfl) (by rw [hXN]; decide) ?_
        dsimp only [lst, lstL, lz, kill, Fin.val, Nat.reduceAdd]
        refine V_aload_n (pc := 48) C (dk k_S_passDay 26 rfl) rfl ?_
        refine V_getr (pc := 49) (o2 := s + 2) C (dk k_S_passDay 27 rfl) fl_S_15 hs (by decide) rfl (by decide) rfl ?_
        refine V_iload_n (pc := 52) C (dk k_S_passDay 28 rfl) rfl ?_
        refine V_aload_n (pc := 53) C (dk k_S_passDay 29 rfl) rfl ?_
        refine V_getr (pc := 54) (o2 := s + 2) C (dk k_S_passDay 30 rfl) fl_S_15 hs (by decide) rfl (by decide) rfl ?_
        refine V_iload_n (pc := 57) C (dk k_S_passDay 31 rfl) rfl ?_
        refine V_callS (pc := 58) C (dk k_S_passDay 32 rfl) lk_S_44 cm_F_at sm_F_at (c_at _ _ _ (s + 2) 5 (pO π i) hs_2 (by decide) kO0 (by omega)) rfl rfl (Nat.le_of_ble_eq_true rfl) (Rm.mono hRm (by decide) (by decide)) ?_
        refine V_aload_n (pc := 61) C (dk k_S_passDay 33 rfl) rfl ?_
        refine V_getr (pc := 62) (o2 := p + 5) C (dk k_S_passDay 34 rfl) fl_S_77 hp (by decide) rfl (by decide) rfl ?_
        refine V_iload_n (pc := 65) C (dk k_S_passDay 35 rfl) rfl ?_
        refine V_callS (pc := 66) C (dk k_S_passDay 36 rfl) lk_S_44 cm_F_at sm_F_at (c_at _ _ _ (p + 5) 8 i hp_5 (by decide) (by omega) (by omega)) rfl rfl (Nat.le_of_ble_eq_true rfl) (Rm.mono hRm (by decide) (by decide)) ?_
        refine V_iadd (pc := 69) C (dk k_S_passDay 37 rfl) ?_
        rw [yR, rU]
        refine V_callS0 (pc := 70) C (dk k_S_passDay 38 rfl) lk_S_40 cm_F_put sm_F_put (c_put _ _ _ (s + 2) 5 (pO π i) (nxR π x (pO π i) i + pU π i) hs_2 (by decide) kO0 (by omega) ⟨by omega, by omega⟩) rfl rfl (Nat.le_of_ble_eq_true rfl) (Rm.mono hRm (by decide) (by decide)) ?_
        refine V_R (fun hR => ?_)
        refine V_iinc (pc := 73) C (dk k_S_passDay 39 rfl) (by rw [hXN]; decide) rfl ?_
        dsimp only [lst, lstL, lz, kill, Fin.val, Nat.reduceAdd]
        refine V_goto (pc := 76) C (dk k_S_passDay 40 rfl) 2 rfl ?_
        try (refine V_fg 3 ?_; dsimp only [fg])
        first | exact ih (i + 1, _) ⟨by dsimp only; omega, dayN_A (by omega) hy, (hfr2.up _ _ (by omega) (by omega))⟩ (by dsimp only; omega) | exact ih (i + 1, _) ⟨by dsimp only; omega, dayN_B (by omega) hy, hfr2⟩ (by dsimp only; omega)
    · skip
      refine V_aload_n (pc := 22) C (dk k_S_passDay 12 rfl) rfl ?_
      refine V_aload_n (pc := 23) C (dk k_S_passDay 13 rfl) rfl ?_
      refine V_iload_n (pc := 24) C (dk k_S_passDay 14 rfl) rfl ?_
      refine V_callV0r (pc := 25) C (dk k_S_passDay 15 rfl) lk_S_73 cm_S_goOn vm_S_goOn (c_S_goOn _ _ _ s p π (dayI π x i) i hπ1 ok hx1 x1 (by omega) (by omega) (by rw [dayI_N]; omega)) hs rfl rfl rfl (Nat.le_of_ble_eq_true rfl) (Rm.mono hRm (by decide) (by decide)) (fun τ1 hq1 => ?_)
      refine V_R (fun hR => ?_)
      first | (have hy := dayM_A (by omega) hq1.1; have hfr2 := hfr.tr hq1.2) | (have hy := dayM_B (by omega) hx1; have hfr2 := hfr)
      have hπ2 := hπ0.st hs hfr2
      obtain ⟨-, -, -, -, -, rT, -⟩ := id hπ2
      obtain ⟨rO, rK, rU⟩ := rT i (by omega) (by omega)
      obtain ⟨-, -, -, yQ, yT⟩ := id hy
      have yP := (yT i (by omega) (by omega)).2
      rw [dayM_P] at yP
      have yR := (yQ (pO π i) kO0 kO1).2
      have yR : _ = nxR π x (pO π i) i := yR
      have ⟨nb0, nb1⟩ := nxR_b ok xk kO0 kO1 (show i ≤ pN π by omega)
      have nb2 := (xQ _ kO0 kO1).2.2.2
      refine V_aload_n (pc := 28) C (dk k_S_passDay 16 rfl) rfl ?_
      refine V_getr (pc := 29) (o2 := s + 4) C (dk k_S_passDay 17 rfl) fl_S_21 hs (by decide) rfl (by decide) rfl ?_
      refine V_iload_n (pc := 32) C (dk k_S_passDay 18 rfl) rfl ?_
      refine V_callS (pc := 33) C (dk k_S_passDay 19 rfl) lk_S_44 cm_F_at sm_F_at (c_at _ _ _ (s + 4) 8 i hs_4 (by decide) (by omega) (by omega)) rfl rfl (Nat.le_of_ble_eq_true rfl) (Rm.mono hRm (by decide) (by decide)) ?_
      refine V_ifeq (pc := 36) C (dk k_S_passDay 20 rfl) 73 rfl (by first | assumption | exact hR _ _ | exact ⟨by omega, by omega⟩) (fun h4 => ?_) (fun h4 => ?_)
      · skip
        refine V_iinc (pc := 73) C (dk k_S_passDay 39 rfl) (by rw [hXN]; decide) rfl ?_
        dsimp only [lst, lstL, lz, kill, Fin.val, Nat.reduceAdd]
        refine V_goto (pc := 76) C (dk k_S_passDay 40 rfl) 2 rfl ?_
        try (refine V_fg 3 ?_; dsimp only [fg])
        first | exact ih (i + 1, _) ⟨by dsimp only; omega, dayN_A (by omega) hy, (hfr2.up _ _ (by omega) (by omega))⟩ (by dsimp only; omega) | exact ih (i + 1, _) ⟨by dsimp only; omega, dayN_B (by omega) hy, hfr2⟩ (by dsimp only; omega)
      · skip
        refine V_aload_n (pc := 39) C (dk k_S_passDay 21 rfl) rfl ?_
        refine V_getr (pc := 40) (o2 := p + 2) C (dk k_S_passDay 22 rfl) fl_S_63 hp (by decide) rfl (by decide) rfl ?_
        refine V_iload_n (pc := 43) C (dk k_S_passDay 23 rfl) rfl ?_
        refine V_callS (pc := 44) C (dk k_S_passDay 24 rfl) lk_S_44 cm_F_at sm_F_at (c_at _ _ _ (p + 2) 8 i hp_2 (by decide) (by omega) (by omega)) rfl rfl (Nat.le_of_ble_eq_true rfl) (Rm.mono hRm (by decide) (by decide)) ?_
        rw [rO]
        refine V_istore_n (pc := 47) C (dk k_S_passDay 25 rfl) (by rw [hXN]; decide) ?_
        dsimp only [lst, lstL, lz, kill, Fin.val, Nat.reduceAdd]
        refine V_aload_n (pc := 48) C (dk k_S_passDay 26 rfl) rfl ?_
        refine V_getr (pc := 49) (o2 := s + 2) C (dk k_S_passDay 27 rfl) fl_S_15 hs (by decide) rfl (by decide) rfl ?_
        refine V_iload_n (pc := 52) C (dk k_S_passDay 28 rfl) rfl ?_
        refine V_aload_n (pc := 53) C (dk k_S_passDay 29 rfl) rfl ?_
        refine V_getr (pc := 54) (o2 := s + 2) C (dk k_S_passDay 30 rfl) fl_S_15 hs (by decide) rfl (by decide) rfl ?_
        refine V_iload_n (pc := 57) C (dk k_S_passDay 31 rfl) rfl ?_
        refine V_callS (pc := 58) C (dk k_S_passDay 32 rfl) lk_S_44 cm_F_at sm_F_at (c_at _ _ _ (s + 2) 5 (pO π i) hs_2 (by decide) kO0 (by omega)) rfl rfl (Nat.le_of_ble_eq_true rfl) (Rm.mono hRm (by decide) (by decide)) ?_
        refine V_aload_n (pc := 61) C (dk k_S_passDay 33 rfl) rfl ?_
        refine V_getr (pc := 62) (o2 := p + 5) C (dk k_S_passDay 34 rfl) fl_S_77 hp (by decide) rfl (by decide) rfl ?_
        refine V_iload_n (pc := 65) C (dk k_S_passDay 35 rfl) rfl ?_
        refine V_callS (pc := 66) C (dk k_S_passDay 36 rfl) lk_S_44 cm_F_at sm_F_at (c_at _ _ _ (p + 5) 8 i hp_5 (by decide) (by omega) (by omega)) rfl rfl (Nat.le_of_ble_eq_true rfl) (Rm.mono hRm (by decide) (by decide)) ?_
        refine V_iadd (pc := 69) C (dk k_S_passDay 37 rfl) ?_
        rw [yR, rU]
        refine V_callS0 (pc := 70) C (dk k_S_passDay 38 rfl) lk_S_40 cm_F_put sm_F_put (c_put _ _ _ (s + 2) 5 (pO π i) (nxR π x (pO π i) i + pU π i) hs_2 (by decide) kO0 (by omega) ⟨by omega, by omega⟩) rfl rfl (Nat.le_of_ble_eq_true rfl) (Rm.mono hRm (by decide) (by decide)) ?_
        refine V_R (fun hR => ?_)
        refine V_iinc (pc := 73) C (dk k_S_passDay 39 rfl) (by rw [hXN]; decide) rfl ?_
        dsimp only [lst, lstL, lz, kill, Fin.val, Nat.reduceAdd]
        refine V_goto (pc := 76) C (dk k_S_passDay 40 rfl) 2 rfl ?_
        try (refine V_fg 3 ?_; dsimp only [fg])
        first | exact ih (i + 1, _) ⟨by dsimp only; omega, dayN_A (by omega) hy, (hfr2.up _ _ (by omega) (by omega))⟩ (by dsimp only; omega) | exact ih (i + 1, _) ⟨by dsimp only; omega, dayN_B (by omega) hy, hfr2⟩ (by dsimp only; omega)

/-- a stand copied: as far as its rows go -/
theorem StR.copy {σ τ : Wd} {s o : Nat} {π : PL} {x : ST} (hs : kd s = 7) (ok : PLok π) (h : StR σ o π x) (h0 : τ s 0 = σ o 0) (h1 : τ s 1 = σ o 1) (h2 : ∀ i : Int, 0 ≤ i → i < 5 → τ (s + 1) i = σ (o + 1) i ∧ τ (s + 2) i = σ (o + 2) i) (h3 : ∀ i : Int, 0 ≤ i → i < 8 → τ (s + 3) i = σ (o + 3) i ∧ τ (s + 4) i = σ (o + 4) i) : StR τ s π x := by
  obtain ⟨g0, g1, g2, g3, g4⟩ := h
  obtain ⟨k1, k2, k3, -⟩ := ok
  refine ⟨hs, h0.trans g1, h1.trans g2, fun q a b => ?_, fun t a b => ?_⟩
  · rw [(h2 q a (by omega)).1, (h2 q a (by omega)).2]; exact g3 q a b
  · rw [(h3 t a (by omega)).1, (h3 t a (by omega)).2]; exact g4 t a b
theorem cpw_row (σ : Wd) (a b k : Nat) (n : Int) (h : k ≠ b) : cpw σ a b n k = σ k := by
  funext i; unfold cpw; rw [if_neg (fun q => h q.1)]
theorem cpw_ne (σ : Wd) (a b k : Nat) (n i : Int) (h : k ≠ b) : cpw σ a b n k i = σ k i := by
  unfold cpw; rw [if_neg (fun q => h q.1)]
theorem cpw_in (σ : Wd) (a b : Nat) (n i : Int) (h0 : 0 ≤ i) (h1 : i < n) : cpw σ a b n b i = σ a i := by
  unfold cpw; rw [if_pos ⟨rfl, h0, h1⟩]
/-- two stands don't overlap -/
theorem kd_SS {s o : Nat} (hs : kd s = 7) (ho : kd o = 7) : s = o ∨ s + 5 ≤ o ∨ o + 5 ≤ s := by
  have key : ∀ a b : Fin NO, kd a.val = 7 → kd b.val = 7 → a.val = b.val ∨ a.val + 5 ≤ b.val ∨ b.val + 5 ≤ a.val := by decide +kernel
  exact key ⟨s, kd_lt hs (by decide)⟩ ⟨o, kd_lt ho (by decide)⟩ hs ho

def i_S_copyFrom : List (Nat × (Instr × Nat)) := [(0, (.aload_n 0, 1)), (1, (.aload_n 1, 1)), (2, (.getfield 24, 3)), (5, (.putfield 24, 3)), (8, (.aload_n 0, 1)), (9, (.aload_n 1, 1)), (10, (.getfield 33, 3)), (13, (.putfield 33, 3)), (16, (.aload_n 1, 1)), (17, (.getfield 9, 3)), (20, (.aload_n 0, 1)), (21, (.getfield 9, 3)), (24, (.invokestatic 35, 3)), (27, (.aload_n 1, 1)), (28, (.getfield 15, 3)), (31, (.aload_n 0, 1)), (32, (.getfield 15, 3)), (35, (.invokestatic 35, 3)), (38, (.aload_n 1, 1)), (39, (.getfield 18, 3)), (42, (.aload_n 0, 1)), (43, (.getfield 18, 3)), (46, (.invokestatic 35, 3)), (49, (.aload_n 1, 1)), (50, (.getfield 21, 3)), (53, (.aload_n 0, 1)), (54, (.getfield 21, 3)), (57, (.invokestatic 35, 3)), (60, (.return_, 1))]
theorem k_S_copyFrom : i_S_copyFrom.all (fun q => decide (decode b_S_copyFrom q.1 = .ok q.2)) = true := by decide +kernel

set_option maxHeartbeats 1000000 in
set_option maxRecDepth 20000 in
theorem c_S_copyFrom (l : Launch) (G : GE) (σ : Wd) (s o : Nat) (hs : kd s = 7) (ho : kd o = 7) (hso : s ≠ o) : Ct l G y_S_copyFrom b_S_copyFrom 2 (none) 2 44 [vR s, vR o] σ (Rt none (fun σ' => (σ' s 0 = σ o 0 ∧ σ' s 1 = σ o 1 ∧ (∀ i : Int, 0 ≤ i → i < 5 → σ' (s + 1) i = σ (o + 1) i ∧ σ' (s + 2) i = σ (o + 2) i) ∧ (∀ i : Int, 0 ≤ i → i < 8 → σ' (s + 3) i = σ (o + 3) i ∧ σ' (s + 4) i = σ (o + 4) i)) ∧ Fr s 5 σ σ')) := by
  refine Ct.of cm_S_copyFrom (Nat.le_of_ble_eq_true rfl) ?_
  intro X hXl hXG hXN hRm C E
  subst hXl; subst hXG
  show V X 0 [some (vR s), some (vR o)] [] σ
  refine V_R (fun hR => ?_)
  obtain ⟨hs_1, hs_2, hs_3, hs_4⟩ := kd_S hs
  obtain ⟨ho_1, ho_2, ho_3, ho_4⟩ := kd_S ho
  have hd := kd_SS hs ho
  refine V_aload_n (pc := 0) C (dk k_S_copyFrom 0 rfl) rfl ?_
  refine V_aload_n (pc := 1) C (dk k_S_copyFrom 1 rfl) rfl ?_
  refine V_geti (pc := 2) (ji := 0) C (dk k_S_copyFrom 2 rfl) fl_S_24 ho (by decide) rfl rfl ?_
  refine V_puti (pc := 5) (ji := 0) C (dk k_S_copyFrom 3 rfl) fl_S_24 fw_7_0 hs (by decide) rfl rfl (by first | assumption | exact hR _ _ | exact ⟨by omega, by omega⟩) ?_
  refine V_R (fun hR => ?_)
  refine V_aload_n (pc := 8) C (dk k_S_copyFrom 4 rfl) rfl ?_
  refine V_aload_n (pc := 9) C (dk k_S_copyFrom 5 rfl) rfl ?_
  refine V_geti (pc := 10) (ji := 1) C (dk k_S_copyFrom 6 rfl) fl_S_33 ho (by decide) rfl rfl ?_
  refine V_puti (pc := 13) (ji := 1) C (dk k_S_copyFrom 7 rfl) fl_S_33 fw_7_1 hs (by decide) rfl rfl (by first | assumption | exact hR _ _ | exact ⟨by omega, by omega⟩) ?_
  refine V_R (fun hR => ?_)
  refine V_aload_n (pc := 16) C (dk k_S_copyFrom 8 rfl) rfl ?_
  refine V_getr (pc := 17) (o2 := o + 1) C (dk k_S_copyFrom 9 rfl) fl_S_9 ho (by decide) rfl (by decide) rfl ?_
  refine V_aload_n (pc := 20) C (dk k_S_copyFrom 10 rfl) rfl ?_
  refine V_getr (pc := 21) (o2 := s + 1) C (dk k_S_copyFrom 11 rfl) fl_S_9 hs (by decide) rfl (by decide) rfl ?_
  refine V_callS0 (pc := 24) C (dk k_S_copyFrom 12 rfl) lk_S_35 cm_F_copyRow sm_F_copyRow (c_F_copyRow _ _ _ (o + 1) (s + 1) 5 ho_1 hs_1 (by decide) (by omega)) rfl rfl (Nat.le_of_ble_eq_true rfl) (Rm.mono hRm (by decide) (by decide)) ?_
  refine V_R (fun hR => ?_)
  refine V_aload_n (pc := 27) C (dk k_S_copyFrom 13 rfl) rfl ?_
  refine V_getr (pc := 28) (o2 := o + 2) C (dk k_S_copyFrom 14 rfl) fl_S_15 ho (by decide) rfl (by decide) rfl ?_
  refine V_aload_n (pc := 31) C (dk k_S_copyFrom 15 rfl) rfl ?_
  refine V_getr (pc := 32) (o2 := s + 2) C (dk k_S_copyFrom 16 rfl) fl_S_15 hs (by decide) rfl (by decide) rfl ?_
  refine V_callS0 (pc := 35) C (dk k_S_copyFrom 17 rfl) lk_S_35 cm_F_copyRow sm_F_copyRow (c_F_copyRow _ _ _ (o + 2) (s + 2) 5 ho_2 hs_2 (by decide) (by omega)) rfl rfl (Nat.le_of_ble_eq_true rfl) (Rm.mono hRm (by decide) (by decide)) ?_
  refine V_R (fun hR => ?_)
  refine V_aload_n (pc := 38) C (dk k_S_copyFrom 18 rfl) rfl ?_
  refine V_getr (pc := 39) (o2 := o + 3) C (dk k_S_copyFrom 19 rfl) fl_S_18 ho (by decide) rfl (by decide) rfl ?_
  refine V_aload_n (pc := 42) C (dk k_S_copyFrom 20 rfl) rfl ?_
  refine V_getr (pc := 43) (o2 := s + 3) C (dk k_S_copyFrom 21 rfl) fl_S_18 hs (by decide) rfl (by decide) rfl ?_
  refine V_callS0 (pc := 46) C (dk k_S_copyFrom 22 rfl) lk_S_35 cm_F_copyRow sm_F_copyRow (c_F_copyRow _ _ _ (o + 3) (s + 3) 8 ho_3 hs_3 (by decide) (by omega)) rfl rfl (Nat.le_of_ble_eq_true rfl) (Rm.mono hRm (by decide) (by decide)) ?_
  refine V_R (fun hR => ?_)
  refine V_aload_n (pc := 49) C (dk k_S_copyFrom 23 rfl) rfl ?_
  refine V_getr (pc := 50) (o2 := o + 4) C (dk k_S_copyFrom 24 rfl) fl_S_21 ho (by decide) rfl (by decide) rfl ?_
  refine V_aload_n (pc := 53) C (dk k_S_copyFrom 25 rfl) rfl ?_
  refine V_getr (pc := 54) (o2 := s + 4) C (dk k_S_copyFrom 26 rfl) fl_S_21 hs (by decide) rfl (by decide) rfl ?_
  refine V_callS0 (pc := 57) C (dk k_S_copyFrom 27 rfl) lk_S_35 cm_F_copyRow sm_F_copyRow (c_F_copyRow _ _ _ (o + 4) (s + 4) 8 ho_4 hs_4 (by decide) (by omega)) rfl rfl (Nat.le_of_ble_eq_true rfl) (Rm.mono hRm (by decide) (by decide)) ?_
  refine V_R (fun hR => ?_)
  refine V_vret (pc := 60) C E (dk k_S_copyFrom 28 rfl) ?_
  refine ⟨rfl, ⟨?_, ?_, fun i a b => ⟨?_, ?_⟩, fun i a b => ⟨?_, ?_⟩⟩, fun k hk => ?_⟩
  all_goals (first | (simp (disch := omega) only [cpw_ne, cpw_in, up_ne1, up_ne2, up_at]; done) | (funext i; simp (disch := omega) only [cpw_ne, cpw_in, up_ne1, up_ne2, up_at]; done))
