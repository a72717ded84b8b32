theorem nxP_0 (π : PL) (x : ST) (t : Int) : nxP π x t = 0 ↔ sP x t = 0 := by
  unfold nxP
  split
  · rename_i h; rw [h]; split <;> omega
  · exact Iff.rfl
theorem dayI_R (π : PL) (x : ST) (i : Nat) (q : Int) : sR (dayI π x i) q = nxR π x q i := rfl
theorem dayI_lt {i : Nat} {t a b : Int} (h : t ≠ i) : (if t < ((i + 1 : Nat) : Int) then a else b) = if t < (i : Int) then a else b := by
  by_cases ht : t < (i : Int)
  · rw [if_pos ht, if_pos (by omega)]
  · rw [if_neg ht, if_neg (by omega)]
theorem dayZ_R {π : PL} {x : ST} {i : Nat} (q v : Int) (hv : v = nxR π x (pO π i) i + (if sP x i = 0 then 0 else pU π i)) : fu (sR (dayI π x i)) (pO π i) v q = nxR π x q (i + 1) := by
  rw [nxR_s]
  unfold fu
  by_cases hq : q = pO π i
  · subst hq
    rw [if_pos rfl, hv]
    by_cases h0 : sP x i = 0
    · rw [if_pos h0, if_neg (fun z => z.1 ((nxP_0 π x i).mpr h0))]
    · rw [if_neg h0, if_pos ⟨fun z => h0 ((nxP_0 π x i).mp z), rfl⟩]
  · rw [if_neg hq, if_neg (fun z => hq z.2.symm), Int.add_zero]; rfl
theorem dayZ_A {π : PL} {x : ST} {i : Nat} {ρ : Wd} (h : StM ρ π (dayI π x i)) (hp : sP x i = 1) (v : Int) (hv : v = nxR π x (pO π i) i + (if sP x i = 0 then 0 else pU π i)) (n p : Int) (hn : n = nx (pK π i) (sN x i) (sD x)) (hpp : p = if n = 0 then 2 else 1) : StM (up (up (up ρ 134 (pO π i) v) 135 i n) 136 i p) π (dayI π x (i + 1)) := by
  refine (((h.upR _ _).upN _ _).upP _ _).cg rfl rfl (fun q a b => ⟨rfl, dayZ_R q v hv⟩) (fun t a b => ?_)
  by_cases ht : t = i
  · subst ht
    constructor
    · show fu _ _ _ _ = if (i : Int) < ((i + 1 : Nat) : Int) then nxN π x i else sN x i
      unfold fu; rw [if_pos rfl, if_pos (by omega), hn]; unfold nxN; rw [if_pos hp]
    · show fu _ _ _ _ = if (i : Int) < ((i + 1 : Nat) : Int) then nxP π x i else sP x i
      unfold fu; rw [if_pos rfl, if_pos (by omega), hpp, hn]; unfold nxP; rw [if_pos hp]
  · constructor
    · show fu _ _ _ _ = if t < ((i + 1 : Nat) : Int) then nxN π x t else sN x t
      rw [dayI_lt ht]; unfold fu; rw [if_neg ht]; rfl
    · show fu _ _ _ _ = if t < ((i + 1 : Nat) : Int) then nxP π x t else sP x t
      rw [dayI_lt ht]; unfold fu; rw [if_neg ht]; rfl
theorem dayZ_B {π : PL} {x : ST} {i : Nat} {ρ : Wd} (h : StM ρ π (dayI π x i)) (hp : ¬ sP x i = 1) (v : Int) (hv : v = nxR π x (pO π i) i + (if sP x i = 0 then 0 else pU π i)) : StM (up ρ 134 (pO π i) v) π (dayI π x (i + 1)) := by
  refine (h.upR _ _).cg rfl rfl (fun q a b => ⟨rfl, dayZ_R q v hv⟩) (fun t a b => ?_)
  by_cases ht : t = i
  · subst ht
    constructor
    · show (if (i : Int) < (i : Int) then _ else _) = if (i : Int) < ((i + 1 : Nat) : Int) then nxN π x i else sN x i
      rw [if_neg (by omega), if_pos (by omega)]; unfold nxN; rw [if_neg hp]
    · show (if (i : Int) < (i : Int) then _ else _) = if (i : Int) < ((i + 1 : Nat) : Int) then nxP π x i else sP x i
      rw [if_neg (by omega), if_pos (by omega)]; unfold nxP; rw [if_neg hp]
  · constructor
    · show (if t < (i : Int) then _ else _) = if t < ((i + 1 : Nat) : Int) then _ else _
      rw [dayI_lt ht]
    · show (if t < (i : Int) then _ else _) = if t < ((i + 1 : Nat) : Int) then _ else _
      rw [dayI_lt ht]
theorem dayZ_0 (π : PL) (x : ST) {τ : Wd} (h : StM τ π x) : StM τ π (dayI π x 0) := by
  refine h.cg rfl rfl (fun q a b => ⟨rfl, ?_⟩) (fun t a b => ⟨?_, ?_⟩)
  · show _ = nxR π x q 0; unfold nxR sm; omega
  · show _ = if t < ((0 : Nat) : Int) then _ else _; rw [if_neg (by omega)]
  · show _ = if t < ((0 : Nat) : Int) then _ else _; rw [if_neg (by omega)]
theorem dayZ_N {π : PL} {x : ST} {τ : Wd} (h : StM τ π (dayI π x (pN π))) (v : Int) (hv : v = sD x + 1) : StM (up τ 128 8 v) π (dayX π x) := by
  subst hv
  refine (h.upD _).cg rfl rfl (fun q a b => ⟨rfl, rfl⟩) (fun t a b => ⟨?_, ?_⟩)
  · show (if t < _ then _ else _) = _; rw [if_pos b]; rfl
  · show (if t < _ then _ else _) = _; rw [if_pos b]; rfl

def i_Z_passes : List (Nat × (Instr × Nat)) := [(0, (.iconst 0, 1)), (1, (.istore_n 1, 1)), (2, (.iload_n 1, 1)), (3, (.aload_n 0, 1)), (4, (.getfield 81, 3)), (7, (.if_icmp .ge 97, 3)), (10, (.aload_n 0, 1)), (11, (.getfield 25, 3)), (14, (.aload_n 0, 1)), (15, (.getfield 13, 3)), (18, (.iload_n 1, 1)), (19, (.iaload, 1)), (20, (.dup2, 1)), (21, (.iaload, 1)), (22, (.aload_n 0, 1)), (23, (.getfield 31, 3)), (26, (.iload_n 1, 1)), (27, (.iaload, 1)), (28, (.ifCond .ne 7, 3)), (31, (.iconst 0, 1)), (32, (.goto 9, 3)), (35, (.aload_n 0, 1)), (36, (.getfield 19, 3)), (39, (.iload_n 1, 1)), (40, (.iaload, 1)), (41, (.iadd, 1)), (42, (.iastore, 1)), (43, (.aload_n 0, 1)), (44, (.getfield 31, 3)), (47, (.iload_n 1, 1)), (48, (.iaload, 1)), (49, (.iconst 1, 1)), (50, (.if_icmp .ne 48, 3)), (53, (.aload_n 0, 1)), (54, (.getfield 28, 3)), (57, (.iload_n 1, 1)), (58, (.aload_n 0, 1)), (59, (.getfield 16, 3)), (62, (.iload_n 1, 1)), (63, (.iaload, 1)), (64, (.aload_n 0, 1)), (65, (.getfield 28, 3)), (68, (.iload_n 1, 1)), (69, (.iaload, 1)), (70, (.aload_n 0, 1)), (71, (.getfield 150, 3)), (74, (.invokestatic 166, 3)), (77, (.iastore, 1)), (78, (.aload_n 0, 1)), (79, (.getfield 31, 3)), (82, (.iload_n 1, 1)), (83, (.aload_n 0, 1)), (84, (.getfield 28, 3)), (87, (.iload_n 1, 1)), (88, (.iaload, 1)), (89, (.ifCond .ne 7, 3)), (92, (.iconst 2, 1)), (93, (.goto 4, 3)), (96, (.iconst 1, 1)), (97, (.iastore, 1)), (98, (.iinc 1 1, 3)), (101, (.goto (-99), 3)), (104, (.aload_n 0, 1)), (105, (.dup, 1)), (106, (.getfield 150, 3)), (109, (.iconst 1, 1)), (110, (.iadd, 1)), (111, (.putfield 150, 3)), (114, (.return_, 1))]
theorem k_Z_passes : i_Z_passes.all (fun q => decide (decode b_Z_passes q.1 = .ok q.2)) = true := by decide +kernel

set_option maxHeartbeats 1000000 in
set_option maxRecDepth 20000 in
theorem c_Z_passes (l : Launch) (G : GE) (σ : Wd) (π : PL) (x : ST) (j : Int) (hπ : PlM σ π) (ok : PLok π) (hx : StM σ π x) (xk : STok π x j) (hj : j ≤ 200) : Ct l G y_Z_passes b_Z_passes 2 (none) 1 23 [vR 128] σ (Rt none (fun σ' => StM σ' π (dayX π x) ∧ FrZ σ σ')) := by
  refine Ct.of cm_Z_passes (Nat.le_of_ble_eq_true rfl) ?_
  intro X hXl hXG hXN hRm C E
  subst hXl; subst hXG
  show V X 0 [some (vR 128), none] [] σ
  refine V_R (fun hR => ?_)
  have hπ0 := hπ
  obtain ⟨e0, e1, e2, e3, eT, eX⟩ := hπ
  have ⟨k1, k2, k3, k4, k5, k6, kT, kX⟩ := ok
  have hx0 := hx
  obtain ⟨f0, f1, fQ, fT⟩ := hx
  have ⟨x1, x2, x3, x4, xQ, xT⟩ := xk
  refine V_iconst (pc := 0) C (dk k_Z_passes 0 rfl) rfl ?_
  refine V_istore_n (pc := 1) C (dk k_Z_passes 1 rfl) (by rw [hXN]; decide) ?_
  dsimp only [lst, lstL, lz, kill, Fin.val, Nat.reduceAdd]
  refine V_eq (V_loop (fun q : Nat × Wd => q.1 ≤ pN π ∧ StM q.2 π (dayI π x q.1) ∧ FrZ σ q.2) (fun q => [some (vR 128), some (vI (q.1 : Int))]) (fun q => q.2) (fun q => pN π - q.1) (fun q hq ih => ?_) (0, σ) ⟨Nat.zero_le _, dayZ_0 π x hx0, FrZ.rf _⟩) rfl rfl rfl
  obtain ⟨i, τ⟩ := q
  obtain ⟨hi, hx1, hfr⟩ := hq
  dsimp only at hi hx1 hfr ih ⊢
  refine V_R (fun hR => ?_)
  obtain ⟨g0, g1, g2, g3, gT, gX⟩ := hπ0.fr hfr
  obtain ⟨q0, q1, qQ, qT⟩ := id hx1
  refine V_iload_n (pc := 2) C (dk k_Z_passes 2 rfl) rfl ?_
  refine V_aload_n (pc := 3) C (dk k_Z_passes 3 rfl) rfl ?_
  refine V_geti (pc := 4) (ji := 1) C (dk k_Z_passes 4 rfl) fl_Z_81 kq_128 (by decide) rfl rfl ?_
  refine V_icmpge (pc := 7) C (dk k_Z_passes 5 rfl) 104 rfl (by first | exact hR _ _ | with_reducible assumption | exact ⟨by omega, by omega⟩) (by first | exact hR _ _ | with_reducible assumption | exact ⟨by omega, by omega⟩) (fun h1 => ?_) (fun h1 => ?_)
  · skip
    have qd : sD (dayI π x i) = sD x := rfl
    refine V_aload_n (pc := 104) C (dk k_Z_passes 62 rfl) rfl ?_
    refine V_dupR (pc := 105) C (dk k_Z_passes 63 rfl) ?_
    refine V_geti (pc := 106) (ji := 8) C (dk k_Z_passes 64 rfl) fl_Z_150 kq_128 (by decide) rfl rfl ?_
    refine V_iconst (pc := 109) C (dk k_Z_passes 65 rfl) rfl ?_
    refine V_iadd (pc := 110) C (dk k_Z_passes 66 rfl) ?_
    refine V_puti (pc := 111) (ji := 8) C (dk k_Z_passes 67 rfl) fl_Z_150 fw_9_8 kq_128 (by decide) rfl rfl ⟨by omega, by omega⟩ ?_
    refine V_R (fun hR => ?_)
    refine V_vret (pc := 114) C E (dk k_Z_passes 68 rfl) ?_
    obtain rfl : i = pN π := by omega
    refine ⟨rfl, dayZ_N hx1 _ (by rw [q0]; rfl), hfr.up 128 _ _ (by omega)⟩
  · skip
    obtain ⟨gN, gP⟩ := qT i (by omega) (by omega)
    rw [dayI_N] at gN
    rw [dayI_P] at gP
    obtain ⟨gO, gK, gU⟩ := gT i (by omega) (by omega)
    obtain ⟨xN0, xN1, xP0, xP1, xPN⟩ := xT i (by omega) (by omega)
    obtain ⟨kO0, kO1, kK0, kK1, kU0, kU1⟩ := kT i (by omega) (by omega)
    have yR := (qQ (pO π i) kO0 kO1).2
    rw [dayI_R] at yR
    have ⟨nb0, nb1⟩ := nxR_b ok xk kO0 kO1 (show i ≤ pN π by omega)
    have nb2 := (xQ _ kO0 kO1).2.2.2
    refine V_aload_n (pc := 10) C (dk k_Z_passes 6 rfl) rfl ?_
    refine V_getr (pc := 11) (o2 := 134) C (dk k_Z_passes 7 rfl) fl_Z_25 kq_128 (by decide) rfl (by decide) rfl ?_
    refine V_aload_n (pc := 14) C (dk k_Z_passes 8 rfl) rfl ?_
    refine V_getr (pc := 15) (o2 := 130) C (dk k_Z_passes 9 rfl) fl_Z_13 kq_128 (by decide) rfl (by decide) rfl ?_
    refine V_iload_n (pc := 18) C (dk k_Z_passes 10 rfl) rfl ?_
    refine V_iald (pc := 19) C (dk k_Z_passes 11 rfl) kq_130 (by decide) (by omega) (by omega) ?_
    rw [gO]
    refine V_dup2IR (pc := 20) C (dk k_Z_passes 12 rfl) ?_
    refine V_iald (pc := 21) C (dk k_Z_passes 13 rfl) kq_134 (by decide) kO0 (by omega) ?_
    rw [yR]
    refine V_aload_n (pc := 22) C (dk k_Z_passes 14 rfl) rfl ?_
    refine V_getr (pc := 23) (o2 := 136) C (dk k_Z_passes 15 rfl) fl_Z_31 kq_128 (by decide) rfl (by decide) rfl ?_
    refine V_iload_n (pc := 26) C (dk k_Z_passes 16 rfl) rfl ?_
    refine V_iald (pc := 27) C (dk k_Z_passes 17 rfl) kq_136 (by decide) (by omega) (by omega) ?_
    refine V_ifne (pc := 28) C (dk k_Z_passes 18 rfl) 35 rfl (by first | exact hR _ _ | with_reducible assumption | exact ⟨by omega, by omega⟩) (fun h2 => ?_) (fun h2 => ?_)
    · skip
      refine V_aload_n (pc := 35) C (dk k_Z_passes 21 rfl) rfl ?_
      refine V_getr (pc := 36) (o2 := 132) C (dk k_Z_passes 22 rfl) fl_Z_19 kq_128 (by decide) rfl (by decide) rfl ?_
      refine V_iload_n (pc := 39) C (dk k_Z_passes 23 rfl) rfl ?_
      refine V_iald (pc := 40) C (dk k_Z_passes 24 rfl) kq_132 (by decide) (by omega) (by omega) ?_
      refine V_iadd (pc := 41) C (dk k_Z_passes 25 rfl) ?_
      first | (obtain ⟨rv, er, ev⟩ : ∃ rv, nxR π x (pO π i) i + 0 = rv ∧ rv = nxR π x (pO π i) i + (if sP x i = 0 then 0 else pU π i) := ⟨_, rfl, by rw [if_pos (by omega)]⟩; rw [er]) | (obtain ⟨rv, er, ev⟩ : ∃ rv, nxR π x (pO π i) i + τ 132 i = rv ∧ rv = nxR π x (pO π i) i + (if sP x i = 0 then 0 else pU π i) := ⟨_, rfl, by rw [if_neg (by omega), gU]⟩; rw [er])
      have rb : 0 ≤ rv ∧ rv ≤ nxR π x (pO π i) i + 20 := by rw [ev]; split <;> omega
      refine V_iast (pc := 42) C (dk k_Z_passes 26 rfl) kq_134 (by decide) kO0 (by omega) ⟨by omega, by omega⟩ ?_
      refine V_R (fun hR => ?_)
      refine V_aload_n (pc := 43) C (dk k_Z_passes 27 rfl) rfl ?_
      refine V_getr (pc := 44) (o2 := 136) C (dk k_Z_passes 28 rfl) fl_Z_31 kq_128 (by decide) rfl (by decide) rfl ?_
      refine V_iload_n (pc := 47) C (dk k_Z_passes 29 rfl) rfl ?_
      refine V_iald (pc := 48) C (dk k_Z_passes 30 rfl) kq_136 (by decide) (by omega) (by omega) ?_
      rw [show up τ 134 (pO π i) rv 136 i = sP x i from (up_ne1 _ _ _ _ (by decide)).trans gP]
      refine V_iconst (pc := 49) C (dk k_Z_passes 31 rfl) rfl ?_
      refine V_icmpne (pc := 50) C (dk k_Z_passes 32 rfl) 98 rfl ⟨by omega, by omega⟩ ⟨by decide, by decide⟩ (fun h3 => ?_) (fun h3 => ?_)
      · skip
        refine V_iinc (pc := 98) C (dk k_Z_passes 60 rfl) (by rw [hXN]; decide) rfl ?_
        dsimp only [lst, lstL, lz, kill, Fin.val, Nat.reduceAdd]
        refine V_goto (pc := 101) C (dk k_Z_passes 61 rfl) 2 rfl ?_
        first | exact ih (i + 1, _) ⟨by dsimp only; omega, dayZ_A hx1 (by omega) rv ev _ _ rfl (by first | rw [if_pos (by assumption)] | rw [if_neg (by assumption)]), ((hfr.up 134 _ _ (by omega)).up 135 _ _ (by omega)).up 136 _ _ (by omega)⟩ (by dsimp only; omega) | exact ih (i + 1, _) ⟨by dsimp only; omega, dayZ_B hx1 (by omega) rv ev, hfr.up 134 _ _ (by omega)⟩ (by dsimp only; omega)
      · skip
        refine V_aload_n (pc := 53) C (dk k_Z_passes 33 rfl) rfl ?_
        refine V_getr (pc := 54) (o2 := 135) C (dk k_Z_passes 34 rfl) fl_Z_28 kq_128 (by decide) rfl (by decide) rfl ?_
        refine V_iload_n (pc := 57) C (dk k_Z_passes 35 rfl) rfl ?_
        refine V_aload_n (pc := 58) C (dk k_Z_passes 36 rfl) rfl ?_
        refine V_getr (pc := 59) (o2 := 131) C (dk k_Z_passes 37 rfl) fl_Z_16 kq_128 (by decide) rfl (by decide) rfl ?_
        refine V_iload_n (pc := 62) C (dk k_Z_passes 38 rfl) rfl ?_
        refine V_iald (pc := 63) C (dk k_Z_passes 39 rfl) kq_131 (by decide) (by omega) (by omega) ?_
        refine V_aload_n (pc := 64) C (dk k_Z_passes 40 rfl) rfl ?_
        refine V_getr (pc := 65) (o2 := 135) C (dk k_Z_passes 41 rfl) fl_Z_28 kq_128 (by decide) rfl (by decide) rfl ?_
        refine V_iload_n (pc := 68) C (dk k_Z_passes 42 rfl) rfl ?_
        refine V_iald (pc := 69) C (dk k_Z_passes 43 rfl) kq_135 (by decide) (by omega) (by omega) ?_
        refine V_aload_n (pc := 70) C (dk k_Z_passes 44 rfl) rfl ?_
        refine V_geti (pc := 71) (ji := 8) C (dk k_Z_passes 45 rfl) fl_Z_150 kq_128 (by decide) rfl rfl ?_
        rw [show up τ 134 (pO π i) rv 131 i = pK π i from (up_ne1 _ _ _ _ (by decide)).trans gK, show up τ 134 (pO π i) rv 135 i = sN x i from (up_ne1 _ _ _ _ (by decide)).trans gN, show up τ 134 (pO π i) rv 128 8 = sD x from (up_ne1 _ _ _ _ (by decide)).trans q0]
        refine V_callS (pc := 74) C (dk k_Z_passes 46 rfl) lk_Z_166 cm_Z_nearThen sm_Z_nearThen (c_Z_nearThen _ _ _ (pK π i) (sN x i) (sD x) ⟨by omega, by omega⟩ (by omega) (by omega) ⟨by omega, by omega⟩ (by omega)) rfl rfl (Nat.le_of_ble_eq_true rfl) (Rm.mono hRm (by decide) (by decide)) ?_
        have ⟨nm0, nm1⟩ := nx_b (k := pK π i) (d := sD x) xN0 xN1
        refine V_iast (pc := 77) C (dk k_Z_passes 47 rfl) kq_135 (by decide) (by omega) (by omega) ⟨by omega, by omega⟩ ?_
        refine V_R (fun hR => ?_)
        refine V_aload_n (pc := 78) C (dk k_Z_passes 48 rfl) rfl ?_
        refine V_getr (pc := 79) (o2 := 136) C (dk k_Z_passes 49 rfl) fl_Z_31 kq_128 (by decide) rfl (by decide) rfl ?_
        refine V_iload_n (pc := 82) C (dk k_Z_passes 50 rfl) rfl ?_
        refine V_aload_n (pc := 83) C (dk k_Z_passes 51 rfl) rfl ?_
        refine V_getr (pc := 84) (o2 := 135) C (dk k_Z_passes 52 rfl) fl_Z_28 kq_128 (by decide) rfl (by decide) rfl ?_
        refine V_iload_n (pc := 87) C (dk k_Z_passes 53 rfl) rfl ?_
        refine V_iald (pc := 88) C (dk k_Z_passes 54 rfl) kq_135 (by decide) (by omega) (by omega) ?_
        rw [show up (up τ 134 (pO π i) rv) 135 i (nx (pK π i) (sN x i) (sD x)) 135 i = nx (pK π i) (sN x i) (sD x) from up_at _ _ _ _]
        have ⟨nn0, nn1⟩ := nx_b (k := pK π i) (d := sD x) xN0 xN1
        refine V_ifne (pc := 89) C (dk k_Z_passes 55 rfl) 96 rfl ⟨by omega, by omega⟩ (fun h4 => ?_) (fun h4 => ?_)
        · skip
          refine V_iconst (pc := 96) C (dk k_Z_passes 58 rfl) rfl ?_
          refine V_iast (pc := 97) C (dk k_Z_passes 59 rfl) kq_136 (by decide) (by omega) (by omega) ⟨by decide, by decide⟩ ?_
          refine V_R (fun hR => ?_)
          refine V_iinc (pc := 98) C (dk k_Z_passes 60 rfl) (by rw [hXN]; decide) rfl ?_
          dsimp only [lst, lstL, lz, kill, Fin.val, Nat.reduceAdd]
          refine V_goto (pc := 101) C (dk k_Z_passes 61 rfl) 2 rfl ?_
          first | exact ih (i + 1, _) ⟨by dsimp only; omega, dayZ_A hx1 (by omega) rv ev _ _ rfl (by first | rw [if_pos (by assumption)] | rw [if_neg (by assumption)]), ((hfr.up 134 _ _ (by omega)).up 135 _ _ (by omega)).up 136 _ _ (by omega)⟩ (by dsimp only; omega) | exact ih (i + 1, _) ⟨by dsimp only; omega, dayZ_B hx1 (by omega) rv ev, hfr.up 134 _ _ (by omega)⟩ (by dsimp only; omega)
        · skip
          refine V_iconst (pc := 92) C (dk k_Z_passes 56 rfl) rfl ?_
          refine V_goto (pc := 93) C (dk k_Z_passes 57 rfl) 97 rfl ?_
          refine V_iast (pc := 97) C (dk k_Z_passes 59 rfl) kq_136 (by decide) (by omega) (by omega) ⟨by decide, by decide⟩ ?_
          refine V_R (fun hR => ?_)
          refine V_iinc (pc := 98) C (dk k_Z_passes 60 rfl) (by rw [hXN]; decide) rfl ?_
          dsimp only [lst, lstL, lz, kill, Fin.val, Nat.reduceAdd]
          refine V_goto (pc := 101) C (dk k_Z_passes 61 rfl) 2 rfl ?_
          first | exact ih (i + 1, _) ⟨by dsimp only; omega, dayZ_A hx1 (by omega) rv ev _ _ rfl (by first | rw [if_pos (by assumption)] | rw [if_neg (by assumption)]), ((hfr.up 134 _ _ (by omega)).up 135 _ _ (by omega)).up 136 _ _ (by omega)⟩ (by dsimp only; omega) | exact ih (i + 1, _) ⟨by dsimp only; omega, dayZ_B hx1 (by omega) rv ev, hfr.up 134 _ _ (by omega)⟩ (by dsimp only; omega)
    · skip
      refine V_iconst (pc := 31) C (dk k_Z_passes 19 rfl) rfl ?_
      refine V_goto (pc := 32) C (dk k_Z_passes 20 rfl) 41 rfl ?_
      refine V_iadd (pc := 41) C (dk k_Z_passes 25 rfl) ?_
      first | (obtain ⟨rv, er, ev⟩ : ∃ rv, nxR π x (pO π i) i + 0 = rv ∧ rv = nxR π x (pO π i) i + (if sP x i = 0 then 0 else pU π i) := ⟨_, rfl, by rw [if_pos (by omega)]⟩; rw [er]) | (obtain ⟨rv, er, ev⟩ : ∃ rv, nxR π x (pO π i) i + τ 132 i = rv ∧ rv = nxR π x (pO π i) i + (if sP x i = 0 then 0 else pU π i) := ⟨_, rfl, by rw [if_neg (by omega), gU]⟩; rw [er])
      have rb : 0 ≤ rv ∧ rv ≤ nxR π x (pO π i) i + 20 := by rw [ev]; split <;> omega
      refine V_iast (pc := 42) C (dk k_Z_passes 26 rfl) kq_134 (by decide) kO0 (by omega) ⟨by omega, by omega⟩ ?_
      refine V_R (fun hR => ?_)
      refine V_aload_n (pc := 43) C (dk k_Z_passes 27 rfl) rfl ?_
      refine V_getr (pc := 44) (o2 := 136) C (dk k_Z_passes 28 rfl) fl_Z_31 kq_128 (by decide) rfl (by decide) rfl ?_
      refine V_iload_n (pc := 47) C (dk k_Z_passes 29 rfl) rfl ?_
      refine V_iald (pc := 48) C (dk k_Z_passes 30 rfl) kq_136 (by decide) (by omega) (by omega) ?_
      rw [show up τ 134 (pO π i) rv 136 i = sP x i from (up_ne1 _ _ _ _ (by decide)).trans gP]
      refine V_iconst (pc := 49) C (dk k_Z_passes 31 rfl) rfl ?_
      refine V_icmpne (pc := 50) C (dk k_Z_passes 32 rfl) 98 rfl ⟨by omega, by omega⟩ ⟨by decide, by decide⟩ (fun h5 => ?_) (fun h5 => ?_)
      · skip
        refine V_iinc (pc := 98) C (dk k_Z_passes 60 rfl) (by rw [hXN]; decide) rfl ?_
        dsimp only [lst, lstL, lz, kill, Fin.val, Nat.reduceAdd]
        refine V_goto (pc := 101) C (dk k_Z_passes 61 rfl) 2 rfl ?_
        first | exact ih (i + 1, _) ⟨by dsimp only; omega, dayZ_A hx1 (by omega) rv ev _ _ rfl (by first | rw [if_pos (by assumption)] | rw [if_neg (by assumption)]), ((hfr.up 134 _ _ (by omega)).up 135 _ _ (by omega)).up 136 _ _ (by omega)⟩ (by dsimp only; omega) | exact ih (i + 1, _) ⟨by dsimp only; omega, dayZ_B hx1 (by omega) rv ev, hfr.up 134 _ _ (by omega)⟩ (by dsimp only; omega)
      · skip
        refine V_aload_n (pc := 53) C (dk k_Z_passes 33 rfl) rfl ?_
        refine V_getr (pc := 54) (o2 := 135) C (dk k_Z_passes 34 rfl) fl_Z_28 kq_128 (by decide) rfl (by decide) rfl ?_
        refine V_iload_n (pc := 57) C (dk k_Z_passes 35 rfl) rfl ?_
        refine V_aload_n (pc := 58) C (dk k_Z_passes 36 rfl) rfl ?_
        refine V_getr (pc := 59) (o2 := 131) C (dk k_Z_passes 37 rfl) fl_Z_16 kq_128 (by decide) rfl (by decide) rfl ?_
        refine V_iload_n (pc := 62) C (dk k_Z_passes 38 rfl) rfl ?_
        refine V_iald (pc := 63) C (dk k_Z_passes 39 rfl) kq_131 (by decide) (by omega) (by omega) ?_
        refine V_aload_n (pc := 64) C (dk k_Z_passes 40 rfl) rfl ?_
        refine V_getr (pc := 65) (o2 := 135) C (dk k_Z_passes 41 rfl) fl_Z_28 kq_128 (by decide) rfl (by decide) rfl ?_
        refine V_iload_n (pc := 68) C (dk k_Z_passes 42 rfl) rfl ?_
        refine V_iald (pc := 69) C (dk k_Z_passes 43 rfl) kq_135 (by decide) (by omega) (by omega) ?_
        refine V_aload_n (pc := 70) C (dk k_Z_passes 44 rfl) rfl ?_
        refine V_geti (pc := 71) (ji := 8) C (dk k_Z_passes 45 rfl) fl_Z_150 kq_128 (by decide) rfl rfl ?_
        rw [show up τ 134 (pO π i) rv 131 i = pK π i from (up_ne1 _ _ _ _ (by decide)).trans gK, show up τ 134 (pO π i) rv 135 i = sN x i from (up_ne1 _ _ _ _ (by decide)).trans gN, show up τ 134 (pO π i) rv 128 8 = sD x from (up_ne1 _ _ _ _ (by decide)).trans q0]
        refine V_callS (pc := 74) C (dk k_Z_passes 46 rfl) lk_Z_166 cm_Z_nearThen sm_Z_nearThen (c_Z_nearThen _ _ _ (pK π i) (sN x i) (sD x) ⟨by omega, by omega⟩ (by omega) (by omega) ⟨by omega, by omega⟩ (by omega)) rfl rfl (Nat.le_of_ble_eq_true rfl) (Rm.mono hRm (by decide) (by decide)) ?_
        have ⟨nm0, nm1⟩ := nx_b (k := pK π i) (d := sD x) xN0 xN1
        refine V_iast (pc := 77) C (dk k_Z_passes 47 rfl) kq_135 (by decide) (by omega) (by omega) ⟨by omega, by omega⟩ ?_
        refine V_R (fun hR => ?_)
        refine V_aload_n (pc := 78) C (dk k_Z_passes 48 rfl) rfl ?_
        refine V_getr (pc := 79) (o2 := 136) C (dk k_Z_passes 49 rfl) fl_Z_31 kq_128 (by decide) rfl (by decide) rfl ?_
        refine V_iload_n (pc := 82) C (dk k_Z_passes 50 rfl) rfl ?_
        refine V_aload_n (pc := 83) C (dk k_Z_passes 51 rfl) rfl ?_
        refine V_getr (pc := 84) (o2 := 135) C (dk k_Z_passes 52 rfl) fl_Z_28 kq_128 (by decide) rfl (by decide) rfl ?_
        refine V_iload_n (pc := 87) C (dk k_Z_passes 53 rfl) rfl ?_
        refine V_iald (pc := 88) C (dk k_Z_passes 54 rfl) kq_135 (by decide) (by omega) (by omega) ?_
        rw [show up (up τ 134 (pO π i) rv) 135 i (nx (pK π i) (sN x i) (sD x)) 135 i = nx (pK π i) (sN x i) (sD x) from up_at _ _ _ _]
        have ⟨nn0, nn1⟩ := nx_b (k := pK π i) (d := sD x) xN0 xN1
        refine V_ifne (pc := 89) C (dk k_Z_passes 55 rfl) 96 rfl ⟨by omega, by omega⟩ (fun h6 => ?_) (fun h6 => ?_)
        · skip
          refine V_iconst (pc := 96) C (dk k_Z_passes 58 rfl) rfl ?_
          refine V_iast (pc := 97) C (dk k_Z_passes 59 rfl) kq_136 (by decide) (by omega) (by omega) ⟨by decide, by decide⟩ ?_
          refine V_R (fun hR => ?_)
          refine V_iinc (pc := 98) C (dk k_Z_passes 60 rfl) (by rw [hXN]; decide) rfl ?_
          dsimp only [lst, lstL, lz, kill, Fin.val, Nat.reduceAdd]
          refine V_goto (pc := 101) C (dk k_Z_passes 61 rfl) 2 rfl ?_
          first | exact ih (i + 1, _) ⟨by dsimp only; omega, dayZ_A hx1 (by omega) rv ev _ _ rfl (by first | rw [if_pos (by assumption)] | rw [if_neg (by assumption)]), ((hfr.up 134 _ _ (by omega)).up 135 _ _ (by omega)).up 136 _ _ (by omega)⟩ (by dsimp only; omega) | exact ih (i + 1, _) ⟨by dsimp only; omega, dayZ_B hx1 (by omega) rv ev, hfr.up 134 _ _ (by omega)⟩ (by dsimp only; omega)
        · skip
          refine V_iconst (pc := 92) C (dk k_Z_passes 56 rfl) rfl ?_
          refine V_goto (pc := 93) C (dk k_Z_passes 57 rfl) 97 rfl ?_
          refine V_iast (pc := 97) C (dk k_Z_passes 59 rfl) kq_136 (by decide) (by omega) (by omega) ⟨by decide, by decide⟩ ?_
          refine V_R (fun hR => ?_)
          refine V_iinc (pc := 98) C (dk k_Z_passes 60 rfl) (by rw [hXN]; decide) rfl ?_
          dsimp only [lst, lstL, lz, kill, Fin.val, Nat.reduceAdd]
          refine V_goto (pc := 101) C (dk k_Z_passes 61 rfl) 2 rfl ?_
          first | exact ih (i + 1, _) ⟨by dsimp only; omega, dayZ_A hx1 (by omega) rv ev _ _ rfl (by first | rw [if_pos (by assumption)] | rw [if_neg (by assumption)]), ((hfr.up 134 _ _ (by omega)).up 135 _ _ (by omega)).up 136 _ _ (by omega)⟩ (by dsimp only; omega) | exact ih (i + 1, _) ⟨by dsimp only; omega, dayZ_B hx1 (by omega) rv ev, hfr.up 134 _ _ (by omega)⟩ (by dsimp only; omega)

def i_Z_goesOn : List (Nat × (Instr × Nat)) := [(0, (.iconst 0, 1)), (1, (.istore_n 2, 1)), (2, (.iload_n 2, 1)), (3, (.iload_n 1, 1)), (4, (.if_icmp .ge 13, 3)), (7, (.aload_n 0, 1)), (8, (.invokevirtual 170, 3)), (11, (.iinc 2 1, 3)), (14, (.goto (-12), 3)), (17, (.return_, 1))]
theorem k_Z_goesOn : i_Z_goesOn.all (fun q => decide (decode b_Z_goesOn q.1 = .ok q.2)) = true := by decide +kernel

set_option maxHeartbeats 1000000 in
set_option maxRecDepth 20000 in
theorem c_Z_goesOn (l : Launch) (G : GE) (σ : Wd) (π : PL) (x : ST) (j : Int) (hπ : PlM σ π) (ok : PLok π) (hx : StM σ π x) (xk : STok π x j) (hj : j ≤ 150) (n : Int) (hn0 : 0 ≤ n) (hn1 : n ≤ 60) : Ct l G y_Z_goesOn b_Z_goesOn 3 (none) 2 44 [vR 128, vI n] σ (Rt none (fun σ' => StM σ' π (daysX π x n.toNat) ∧ FrZ σ σ')) := by
  refine Ct.of cm_Z_goesOn (Nat.le_of_ble_eq_true rfl) ?_
  intro X hXl hXG hXN hRm C E
  subst hXl; subst hXG
  show V X 0 [some (vR 128), some (vI n), none] [] σ
  refine V_R (fun hR => ?_)
  have hπ0 := hπ
  obtain ⟨e0, e1, e2, e3, eT, eX⟩ := hπ
  have ⟨k1, k2, k3, k4, k5, k6, kT, kX⟩ := ok
  have hx0 := hx
  obtain ⟨f0, f1, fQ, fT⟩ := hx
  have ⟨x1, x2, x3, x4, xQ, xT⟩ := xk
  refine V_iconst (pc := 0) C (dk k_Z_goesOn 0 rfl) rfl ?_
  refine V_istore_n (pc := 1) C (dk k_Z_goesOn 1 rfl) (by rw [hXN]; decide) ?_
  dsimp only [lst, lstL, lz, kill, Fin.val, Nat.reduceAdd]
  refine V_eq (V_loop (fun q : Nat × Wd => (q.1 : Int) ≤ n ∧ StM q.2 π (daysX π x q.1) ∧ FrZ σ q.2) (fun q => [some (vR 128), some (vI n), some (vI (q.1 : Int))]) (fun q => q.2) (fun q => n.toNat - q.1) (fun q hq ih => ?_) (0, σ) ⟨by dsimp only; omega, hx0, FrZ.rf _⟩) rfl rfl rfl
  obtain ⟨i, τ⟩ := q
  obtain ⟨hi, hx1, hfr⟩ := hq
  dsimp only at hi hx1 hfr ih ⊢
  refine V_R (fun hR => ?_)
  refine V_iload_n (pc := 2) C (dk k_Z_goesOn 2 rfl) rfl ?_
  refine V_iload_n (pc := 3) C (dk k_Z_goesOn 3 rfl) rfl ?_
  refine V_icmpge (pc := 4) C (dk k_Z_goesOn 4 rfl) 17 rfl (by first | exact hR _ _ | with_reducible assumption | exact ⟨by omega, by omega⟩) (by first | exact hR _ _ | with_reducible assumption | exact ⟨by omega, by omega⟩) (fun h1 => ?_) (fun h1 => ?_)
  · skip
    refine V_vret (pc := 17) C E (dk k_Z_goesOn 9 rfl) ?_
    obtain rfl : n = i := by omega
    exact ⟨rfl, by rw [Int.toNat_natCast]; exact hx1, hfr⟩
  · skip
    refine V_aload_n (pc := 7) C (dk k_Z_goesOn 5 rfl) rfl ?_
    refine V_callV0r (pc := 8) C (dk k_Z_goesOn 6 rfl) lk_Z_170 cm_Z_passes vm_Z_passes (c_Z_passes _ _ _ π (daysX π x i) (j + 3) (hπ0.fr hfr) ok hx1 ((days_ok ok xk i).ok (by omega) (by omega)) (by omega)) kq_128 rfl rfl rfl (Nat.le_of_ble_eq_true rfl) (Rm.mono hRm (by decide) (by decide)) (fun τ2 hq2 => ?_)
    refine V_R (fun hR => ?_)
    refine V_iinc (pc := 11) C (dk k_Z_goesOn 7 rfl) (by rw [hXN]; decide) rfl ?_
    dsimp only [lst, lstL, lz, kill, Fin.val, Nat.reduceAdd]
    refine V_goto (pc := 14) C (dk k_Z_goesOn 8 rfl) 2 rfl ?_
    exact ih (i + 1, τ2) ⟨by dsimp only; omega, hq2.1, hfr.tr hq2.2⟩ (by dsimp only; omega)

def i_Z_thoseIn : List (Nat × (Instr × Nat)) := [(0, (.iconst 0, 1)), (1, (.istore_n 2, 1)), (2, (.iconst 0, 1)), (3, (.istore_n 3, 1)), (4, (.iload_n 3, 1)), (5, (.aload_n 0, 1)), (6, (.getfield 81, 3)), (9, (.if_icmp .ge 29, 3)), (12, (.iload_n 2, 1)), (13, (.aload_n 0, 1)), (14, (.getfield 31, 3)), (17, (.iload_n 3, 1)), (18, (.iaload, 1)), (19, (.iload_n 1, 1)), (20, (.if_icmp .ne 9, 3)), (23, (.iconst 1, 1)), (24, (.iload_n 3, 1)), (25, (.ishl, 1)), (26, (.goto 4, 3)), (29, (.iconst 0, 1)), (30, (.ior, 1)), (31, (.istore_n 2, 1)), (32, (.iinc 3 1, 3)), (35, (.goto (-31), 3)), (38, (.iload_n 2, 1)), (39, (.ireturn, 1))]
theorem k_Z_thoseIn : i_Z_thoseIn.all (fun q => decide (decode b_Z_thoseIn q.1 = .ok q.2)) = true := by decide +kernel

set_option maxHeartbeats 1000000 in
set_option maxRecDepth 20000 in
theorem c_Z_thoseIn (l : Launch) (G : GE) (σ : Wd) (π : PL) (x : ST) (j : Int) (hπ : PlM σ π) (ok : PLok π) (hx : StM σ π x) (xk : STok π x j) (hj : j ≤ 200) (k : Int) (hk : inR k) : Ct l G y_Z_thoseIn b_Z_thoseIn 4 (some (.int)) 0 0 [vR 128, vI k] σ (Dt (some (vI (bs (fun t => decide (sP x t = k)) (pN π)))) σ) := by
  refine Ct.of cm_Z_thoseIn (Nat.le_of_ble_eq_true rfl) ?_
  intro X hXl hXG hXN hRm C E
  subst hXl; subst hXG
  have ⟨hk_1, hk_2⟩ := hk
  show V X 0 [some (vR 128), some (vI k), none, none] [] σ
  refine V_R (fun hR => ?_)
  have hπ0 := hπ
  obtain ⟨e0, e1, e2, e3, eT, eX⟩ := hπ
  have ⟨k1, k2, k3, k4, k5, k6, kT, kX⟩ := ok
  have hx0 := hx
  obtain ⟨f0, f1, fQ, fT⟩ := hx
  have ⟨x1, x2, x3, x4, xQ, xT⟩ := xk
  refine V_iconst (pc := 0) C (dk k_Z_thoseIn 0 rfl) rfl ?_
  refine V_istore_n (pc := 1) C (dk k_Z_thoseIn 1 rfl) (by rw [hXN]; decide) ?_
  dsimp only [lst, lstL, lz, kill, Fin.val, Nat.reduceAdd]
  refine V_iconst (pc := 2) C (dk k_Z_thoseIn 2 rfl) rfl ?_
  refine V_istore_n (pc := 3) C (dk k_Z_thoseIn 3 rfl) (by rw [hXN]; decide) ?_
  dsimp only [lst, lstL, lz, kill, Fin.val, Nat.reduceAdd]
  refine V_eq (V_loop (fun i : Nat => i ≤ pN π) (fun i => [some (vR 128), some (vI k), some (vI (bs (fun t => decide (sP x t = k)) i)), some (vI (i : Int))]) (fun _ => σ) (fun i => pN π - i) (fun i hi ih => ?_) 0 (Nat.zero_le _)) rfl rfl rfl
  have hb := bs_256 (fun t => decide (sP x t = k)) (show i ≤ 8 by omega)
  refine V_iload_n (pc := 4) C (dk k_Z_thoseIn 4 rfl) rfl ?_
  refine V_aload_n (pc := 5) C (dk k_Z_thoseIn 5 rfl) rfl ?_
  refine V_geti (pc := 6) (ji := 1) C (dk k_Z_thoseIn 6 rfl) fl_Z_81 kq_128 (by decide) rfl rfl ?_
  refine V_icmpge (pc := 9) C (dk k_Z_thoseIn 7 rfl) 38 rfl (by first | exact hR _ _ | with_reducible assumption | exact ⟨by omega, by omega⟩) (by first | exact hR _ _ | with_reducible assumption | exact ⟨by omega, by omega⟩) (fun h1 => ?_) (fun h1 => ?_)
  · skip
    refine V_iload_n (pc := 38) C (dk k_Z_thoseIn 24 rfl) rfl ?_
    refine V_iret (pc := 39) C E (dk k_Z_thoseIn 25 rfl) ?_
    obtain rfl : i = pN π := by omega
    exact ⟨rfl, rfl⟩
  · skip
    obtain ⟨gN, gP⟩ := fT i (by omega) (by omega)
    obtain ⟨gO, gK, gU⟩ := eT i (by omega) (by omega)
    have hp8 := bs_p8 (show i < 8 by omega)
    refine V_iload_n (pc := 12) C (dk k_Z_thoseIn 8 rfl) rfl ?_
    refine V_aload_n (pc := 13) C (dk k_Z_thoseIn 9 rfl) rfl ?_
    refine V_getr (pc := 14) (o2 := 136) C (dk k_Z_thoseIn 10 rfl) fl_Z_31 kq_128 (by decide) rfl (by decide) rfl ?_
    refine V_iload_n (pc := 17) C (dk k_Z_thoseIn 11 rfl) rfl ?_
    refine V_iald (pc := 18) C (dk k_Z_thoseIn 12 rfl) kq_136 (by decide) (by omega) (by omega) ?_
    refine V_iload_n (pc := 19) C (dk k_Z_thoseIn 13 rfl) rfl ?_
    refine V_icmpne (pc := 20) C (dk k_Z_thoseIn 14 rfl) 29 rfl (by first | exact hR _ _ | with_reducible assumption | exact ⟨by omega, by omega⟩) (by first | exact hR _ _ | with_reducible assumption | exact ⟨by omega, by omega⟩) (fun h2 => ?_) (fun h2 => ?_)
    · skip
      refine V_iconst (pc := 29) C (dk k_Z_thoseIn 19 rfl) rfl ?_
      refine V_ior (pc := 30) C (dk k_Z_thoseIn 20 rfl) ⟨by omega, by omega⟩ ⟨by omega, by omega⟩ (by omega) (by omega) ?_
      refine V_istore_n (pc := 31) C (dk k_Z_thoseIn 21 rfl) (by rw [hXN]; decide) ?_
      dsimp only [lst, lstL, lz, kill, Fin.val, Nat.reduceAdd]
      refine V_iinc (pc := 32) C (dk k_Z_thoseIn 22 rfl) (by rw [hXN]; decide) rfl ?_
      dsimp only [lst, lstL, lz, kill, Fin.val, Nat.reduceAdd]
      refine V_goto (pc := 35) C (dk k_Z_thoseIn 23 rfl) 4 rfl ?_
      refine V_eq (ih (i + 1) (by omega) (by omega)) ?_ rfl rfl
      rw [bs_s]
      first | (rw [if_pos (show (fun t => decide (sP x t = k)) (i : Int) = true from decide_eq_true (by omega)), ← bs_or]; rfl) | (rw [if_neg (show ¬ (fun t => decide (sP x t = k)) (i : Int) = true from fun z => by have := of_decide_eq_true z; omega)]; show _ = [_, _, some (vI (bs (fun t => decide (sP x t = k)) i + 0)), _]; rw [Int.add_zero]; rw [show (((bs (fun t => decide (sP x t = k)) i).toNat ||| (0 : Int).toNat : Nat) : Int) = bs (fun t => decide (sP x t = k)) i from by rw [show (0 : Int).toNat = 0 from rfl, Nat.or_zero]; omega]; rfl)
    · skip
      refine V_iconst (pc := 23) C (dk k_Z_thoseIn 15 rfl) rfl ?_
      refine V_iload_n (pc := 24) C (dk k_Z_thoseIn 16 rfl) rfl ?_
      refine V_ishl (pc := 25) C (dk k_Z_thoseIn 17 rfl) (by omega) (by omega) (by omega) hp8.1 ?_
      refine V_goto (pc := 26) C (dk k_Z_thoseIn 18 rfl) 30 rfl ?_
      refine V_ior (pc := 30) C (dk k_Z_thoseIn 20 rfl) ⟨by omega, by omega⟩ ⟨by omega, by omega⟩ (by omega) (by omega) ?_
      refine V_istore_n (pc := 31) C (dk k_Z_thoseIn 21 rfl) (by rw [hXN]; decide) ?_
      dsimp only [lst, lstL, lz, kill, Fin.val, Nat.reduceAdd]
      refine V_iinc (pc := 32) C (dk k_Z_thoseIn 22 rfl) (by rw [hXN]; decide) rfl ?_
      dsimp only [lst, lstL, lz, kill, Fin.val, Nat.reduceAdd]
      refine V_goto (pc := 35) C (dk k_Z_thoseIn 23 rfl) 4 rfl ?_
      refine V_eq (ih (i + 1) (by omega) (by omega)) ?_ rfl rfl
      rw [bs_s]
      first | (rw [if_pos (show (fun t => decide (sP x t = k)) (i : Int) = true from decide_eq_true (by omega)), ← bs_or]; rfl) | (rw [if_neg (show ¬ (fun t => decide (sP x t = k)) (i : Int) = true from fun z => by have := of_decide_eq_true z; omega)]; show _ = [_, _, some (vI (bs (fun t => decide (sP x t = k)) i + 0)), _]; rw [Int.add_zero]; rw [show (((bs (fun t => decide (sP x t = k)) i).toNat ||| (0 : Int).toNat : Nat) : Int) = bs (fun t => decide (sP x t = k)) i from by rw [show (0 : Int).toNat = 0 from rfl, Nat.or_zero]; omega]; rfl)

def i_Z_thoseWith : List (Nat × (Instr × Nat)) := [(0, (.iconst 0, 1)), (1, (.istore_n 2, 1)), (2, (.iconst 0, 1)), (3, (.istore_n 3, 1)), (4, (.iload_n 3, 1)), (5, (.aload_n 0, 1)), (6, (.getfield 81, 3)), (9, (.if_icmp .ge 38, 3)), (12, (.iload_n 2, 1)), (13, (.aload_n 0, 1)), (14, (.getfield 31, 3)), (17, (.iload_n 3, 1)), (18, (.iaload, 1)), (19, (.ifCond .ne 19, 3)), (22, (.aload_n 0, 1)), (23, (.getfield 13, 3)), (26, (.iload_n 3, 1)), (27, (.iaload, 1)), (28, (.iload_n 1, 1)), (29, (.if_icmp .ne 9, 3)), (32, (.iconst 1, 1)), (33, (.iload_n 3, 1)), (34, (.ishl, 1)), (35, (.goto 4, 3)), (38, (.iconst 0, 1)), (39, (.ior, 1)), (40, (.istore_n 2, 1)), (41, (.iinc 3 1, 3)), (44, (.goto (-40), 3)), (47, (.iload_n 2, 1)), (48, (.ireturn, 1))]
theorem k_Z_thoseWith : i_Z_thoseWith.all (fun q => decide (decode b_Z_thoseWith q.1 = .ok q.2)) = true := by decide +kernel

set_option maxHeartbeats 1000000 in
set_option maxRecDepth 20000 in
theorem c_Z_thoseWith (l : Launch) (G : GE) (σ : Wd) (π : PL) (x : ST) (j : Int) (hπ : PlM σ π) (ok : PLok π) (hx : StM σ π x) (xk : STok π x j) (hj : j ≤ 200) (k : Int) (hk : inR k) : Ct l G y_Z_thoseWith b_Z_thoseWith 4 (some (.int)) 0 0 [vR 128, vI k] σ (Dt (some (vI (bs (fun t => decide (pO π t = k ∧ sP x t = 0)) (pN π)))) σ) := by
  refine Ct.of cm_Z_thoseWith (Nat.le_of_ble_eq_true rfl) ?_
  intro X hXl hXG hXN hRm C E
  subst hXl; subst hXG
  have ⟨hk_1, hk_2⟩ := hk
  show V X 0 [some (vR 128), some (vI k), none, none] [] σ
  refine V_R (fun hR => ?_)
  have hπ0 := hπ
  obtain ⟨e0, e1, e2, e3, eT, eX⟩ := hπ
  have ⟨k1, k2, k3, k4, k5, k6, kT, kX⟩ := ok
  have hx0 := hx
  obtain ⟨f0, f1, fQ, fT⟩ := hx
  have ⟨x1, x2, x3, x4, xQ, xT⟩ := xk
  refine V_iconst (pc := 0) C (dk k_Z_thoseWith 0 rfl) rfl ?_
  refine V_istore_n (pc := 1) C (dk k_Z_thoseWith 1 rfl) (by rw [hXN]; decide) ?_
  dsimp only [lst, lstL, lz, kill, Fin.val, Nat.reduceAdd]
  refine V_iconst (pc := 2) C (dk k_Z_thoseWith 2 rfl) rfl ?_
  refine V_istore_n (pc := 3) C (dk k_Z_thoseWith 3 rfl) (by rw [hXN]; decide) ?_
  dsimp only [lst, lstL, lz, kill, Fin.val, Nat.reduceAdd]
  refine V_eq (V_loop (fun i : Nat => i ≤ pN π) (fun i => [some (vR 128), some (vI k), some (vI (bs (fun t => decide (pO π t = k ∧ sP x t = 0)) i)), some (vI (i : Int))]) (fun _ => σ) (fun i => pN π - i) (fun i hi ih => ?_) 0 (Nat.zero_le _)) rfl rfl rfl
  have hb := bs_256 (fun t => decide (pO π t = k ∧ sP x t = 0)) (show i ≤ 8 by omega)
  refine V_iload_n (pc := 4) C (dk k_Z_thoseWith 4 rfl) rfl ?_
  refine V_aload_n (pc := 5) C (dk k_Z_thoseWith 5 rfl) rfl ?_
  refine V_geti (pc := 6) (ji := 1) C (dk k_Z_thoseWith 6 rfl) fl_Z_81 kq_128 (by decide) rfl rfl ?_
  refine V_icmpge (pc := 9) C (dk k_Z_thoseWith 7 rfl) 47 rfl (by first | exact hR _ _ | with_reducible assumption | exact ⟨by omega, by omega⟩) (by first | exact hR _ _ | with_reducible assumption | exact ⟨by omega, by omega⟩) (fun h1 => ?_) (fun h1 => ?_)
  · skip
    refine V_iload_n (pc := 47) C (dk k_Z_thoseWith 29 rfl) rfl ?_
    refine V_iret (pc := 48) C E (dk k_Z_thoseWith 30 rfl) ?_
    obtain rfl : i = pN π := by omega
    exact ⟨rfl, rfl⟩
  · skip
    obtain ⟨gN, gP⟩ := fT i (by omega) (by omega)
    obtain ⟨gO, gK, gU⟩ := eT i (by omega) (by omega)
    have hp8 := bs_p8 (show i < 8 by omega)
    refine V_iload_n (pc := 12) C (dk k_Z_thoseWith 8 rfl) rfl ?_
    refine V_aload_n (pc := 13) C (dk k_Z_thoseWith 9 rfl) rfl ?_
    refine V_getr (pc := 14) (o2 := 136) C (dk k_Z_thoseWith 10 rfl) fl_Z_31 kq_128 (by decide) rfl (by decide) rfl ?_
    refine V_iload_n (pc := 17) C (dk k_Z_thoseWith 11 rfl) rfl ?_
    refine V_iald (pc := 18) C (dk k_Z_thoseWith 12 rfl) kq_136 (by decide) (by omega) (by omega) ?_
    refine V_ifne (pc := 19) C (dk k_Z_thoseWith 13 rfl) 38 rfl (by first | exact hR _ _ | with_reducible assumption | exact ⟨by omega, by omega⟩) (fun h2 => ?_) (fun h2 => ?_)
    · skip
      refine V_iconst (pc := 38) C (dk k_Z_thoseWith 24 rfl) rfl ?_
      refine V_ior (pc := 39) C (dk k_Z_thoseWith 25 rfl) ⟨by omega, by omega⟩ ⟨by omega, by omega⟩ (by omega) (by omega) ?_
      refine V_istore_n (pc := 40) C (dk k_Z_thoseWith 26 rfl) (by rw [hXN]; decide) ?_
      dsimp only [lst, lstL, lz, kill, Fin.val, Nat.reduceAdd]
      refine V_iinc (pc := 41) C (dk k_Z_thoseWith 27 rfl) (by rw [hXN]; decide) rfl ?_
      dsimp only [lst, lstL, lz, kill, Fin.val, Nat.reduceAdd]
      refine V_goto (pc := 44) C (dk k_Z_thoseWith 28 rfl) 4 rfl ?_
      refine V_eq (ih (i + 1) (by omega) (by omega)) ?_ rfl rfl
      rw [bs_s]
      first | (rw [if_pos (show (fun t => decide (pO π t = k ∧ sP x t = 0)) (i : Int) = true from decide_eq_true (by omega)), ← bs_or]; rfl) | (rw [if_neg (show ¬ (fun t => decide (pO π t = k ∧ sP x t = 0)) (i : Int) = true from fun z => by have := of_decide_eq_true z; omega)]; show _ = [_, _, some (vI (bs (fun t => decide (pO π t = k ∧ sP x t = 0)) i + 0)), _]; rw [Int.add_zero]; rw [show (((bs (fun t => decide (pO π t = k ∧ sP x t = 0)) i).toNat ||| (0 : Int).toNat : Nat) : Int) = bs (fun t => decide (pO π t = k ∧ sP x t = 0)) i from by rw [show (0 : Int).toNat = 0 from rfl, Nat.or_zero]; omega]; rfl)
    · skip
      refine V_aload_n (pc := 22) C (dk k_Z_thoseWith 14 rfl) rfl ?_
      refine V_getr (pc := 23) (o2 := 130) C (dk k_Z_thoseWith 15 rfl) fl_Z_13 kq_128 (by decide) rfl (by decide) rfl ?_
      refine V_iload_n (pc := 26) C (dk k_Z_thoseWith 16 rfl) rfl ?_
      refine V_iald (pc := 27) C (dk k_Z_thoseWith 17 rfl) kq_130 (by decide) (by omega) (by omega) ?_
      refine V_iload_n (pc := 28) C (dk k_Z_thoseWith 18 rfl) rfl ?_
      refine V_icmpne (pc := 29) C (dk k_Z_thoseWith 19 rfl) 38 rfl (by first | exact hR _ _ | with_reducible assumption | exact ⟨by omega, by omega⟩) (by first | exact hR _ _ | with_reducible assumption | exact ⟨by omega, by omega⟩) (fun h3 => ?_) (fun h3 => ?_)
      · skip
        refine V_iconst (pc := 38) C (dk k_Z_thoseWith 24 rfl) rfl ?_
        refine V_ior (pc := 39) C (dk k_Z_thoseWith 25 rfl) ⟨by omega, by omega⟩ ⟨by omega, by omega⟩ (by omega) (by omega) ?_
        refine V_istore_n (pc := 40) C (dk k_Z_thoseWith 26 rfl) (by rw [hXN]; decide) ?_
        dsimp only [lst, lstL, lz, kill, Fin.val, Nat.reduceAdd]
        refine V_iinc (pc := 41) C (dk k_Z_thoseWith 27 rfl) (by rw [hXN]; decide) rfl ?_
        dsimp only [lst, lstL, lz, kill, Fin.val, Nat.reduceAdd]
        refine V_goto (pc := 44) C (dk k_Z_thoseWith 28 rfl) 4 rfl ?_
        refine V_eq (ih (i + 1) (by omega) (by omega)) ?_ rfl rfl
        rw [bs_s]
        first | (rw [if_pos (show (fun t => decide (pO π t = k ∧ sP x t = 0)) (i : Int) = true from decide_eq_true (by omega)), ← bs_or]; rfl) | (rw [if_neg (show ¬ (fun t => decide (pO π t = k ∧ sP x t = 0)) (i : Int) = true from fun z => by have := of_decide_eq_true z; omega)]; show _ = [_, _, some (vI (bs (fun t => decide (pO π t = k ∧ sP x t = 0)) i + 0)), _]; rw [Int.add_zero]; rw [show (((bs (fun t => decide (pO π t = k ∧ sP x t = 0)) i).toNat ||| (0 : Int).toNat : Nat) : Int) = bs (fun t => decide (pO π t = k ∧ sP x t = 0)) i from by rw [show (0 : Int).toNat = 0 from rfl, Nat.or_zero]; omega]; rfl)
      · skip
        refine V_iconst (pc := 32) C (dk k_Z_thoseWith 20 rfl) rfl ?_
        refine V_iload_n (pc := 33) C (dk k_Z_thoseWith 21 rfl) rfl ?_
        refine V_ishl (pc := 34) C (dk k_Z_thoseWith 22 rfl) (by omega) (by omega) (by omega) hp8.1 ?_
        refine V_goto (pc := 35) C (dk k_Z_thoseWith 23 rfl) 39 rfl ?_
        refine V_ior (pc := 39) C (dk k_Z_thoseWith 25 rfl) ⟨by omega, by omega⟩ ⟨by omega, by omega⟩ (by omega) (by omega) ?_
        refine V_istore_n (pc := 40) C (dk k_Z_thoseWith 26 rfl) (by rw [hXN]; decide) ?_
        dsimp only [lst, lstL, lz, kill, Fin.val, Nat.reduceAdd]
        refine V_iinc (pc := 41) C (dk k_Z_thoseWith 27 rfl) (by rw [hXN]; decide) rfl ?_
        dsimp only [lst, lstL, lz, kill, Fin.val, Nat.reduceAdd]
        refine V_goto (pc := 44) C (dk k_Z_thoseWith 28 rfl) 4 rfl ?_
        refine V_eq (ih (i + 1) (by omega) (by omega)) ?_ rfl rfl
        rw [bs_s]
        first | (rw [if_pos (show (fun t => decide (pO π t = k ∧ sP x t = 0)) (i : Int) = true from decide_eq_true (by omega)), ← bs_or]; rfl) | (rw [if_neg (show ¬ (fun t => decide (pO π t = k ∧ sP x t = 0)) (i : Int) = true from fun z => by have := of_decide_eq_true z; omega)]; show _ = [_, _, some (vI (bs (fun t => decide (pO π t = k ∧ sP x t = 0)) i + 0)), _]; rw [Int.add_zero]; rw [show (((bs (fun t => decide (pO π t = k ∧ sP x t = 0)) i).toNat ||| (0 : Int).toNat : Nat) : Int) = bs (fun t => decide (pO π t = k ∧ sP x t = 0)) i from by rw [show (0 : Int).toNat = 0 from rfl, Nat.or_zero]; omega]; rfl)

def i_Z_nearIn : List (Nat × (Instr × Nat)) := [(0, (.iconst 0, 1)), (1, (.istore_n 1, 1)), (2, (.iconst 0, 1)), (3, (.istore_n 2, 1)), (4, (.iload_n 2, 1)), (5, (.aload_n 0, 1)), (6, (.getfield 81, 3)), (9, (.if_icmp .ge 32, 3)), (12, (.iload_n 1, 1)), (13, (.aload_n 0, 1)), (14, (.getfield 31, 3)), (17, (.iload_n 2, 1)), (18, (.iaload, 1)), (19, (.iconst 1, 1)), (20, (.if_icmp .ne 12, 3)), (23, (.aload_n 0, 1)), (24, (.getfield 28, 3)), (27, (.iload_n 2, 1)), (28, (.iaload, 1)), (29, (.goto 4, 3)), (32, (.iconst 0, 1)), (33, (.iadd, 1)), (34, (.istore_n 1, 1)), (35, (.iinc 2 1, 3)), (38, (.goto (-34), 3)), (41, (.iload_n 1, 1)), (42, (.ireturn, 1))]
theorem k_Z_nearIn : i_Z_nearIn.all (fun q => decide (decode b_Z_nearIn q.1 = .ok q.2)) = true := by decide +kernel

set_option maxHeartbeats 1000000 in
set_option maxRecDepth 20000 in
theorem c_Z_nearIn (l : Launch) (G : GE) (σ : Wd) (π : PL) (x : ST) (j : Int) (hπ : PlM σ π) (ok : PLok π) (hx : StM σ π x) (xk : STok π x j) (hj : j ≤ 200) : Ct l G y_Z_nearIn b_Z_nearIn 3 (some (.int)) 0 0 [vR 128] σ (Dt (some (vI (cellar π x))) σ) := by
  refine Ct.of cm_Z_nearIn (Nat.le_of_ble_eq_true rfl) ?_
  intro X hXl hXG hXN hRm C E
  subst hXl; subst hXG
  show V X 0 [some (vR 128), none, none] [] σ
  refine V_R (fun hR => ?_)
  have hπ0 := hπ
  obtain ⟨e0, e1, e2, e3, eT, eX⟩ := hπ
  have ⟨k1, k2, k3, k4, k5, k6, kT, kX⟩ := ok
  have hx0 := hx
  obtain ⟨f0, f1, fQ, fT⟩ := hx
  have ⟨x1, x2, x3, x4, xQ, xT⟩ := xk
  refine V_iconst (pc := 0) C (dk k_Z_nearIn 0 rfl) rfl ?_
  refine V_istore_n (pc := 1) C (dk k_Z_nearIn 1 rfl) (by rw [hXN]; decide) ?_
  dsimp only [lst, lstL, lz, kill, Fin.val, Nat.reduceAdd]
  refine V_iconst (pc := 2) C (dk k_Z_nearIn 2 rfl) rfl ?_
  refine V_istore_n (pc := 3) C (dk k_Z_nearIn 3 rfl) (by rw [hXN]; decide) ?_
  dsimp only [lst, lstL, lz, kill, Fin.val, Nat.reduceAdd]
  refine V_eq (V_loop (fun i : Nat => i ≤ pN π) (fun i => [some (vR 128), some (vI (sm (fun t => if sP x t = 1 then sN x t else 0) i)), some (vI (i : Int))]) (fun _ => σ) (fun i => pN π - i) (fun i hi ih => ?_) 0 (Nat.zero_le _)) rfl rfl rfl
  refine V_iload_n (pc := 4) C (dk k_Z_nearIn 4 rfl) rfl ?_
  refine V_aload_n (pc := 5) C (dk k_Z_nearIn 5 rfl) rfl ?_
  refine V_geti (pc := 6) (ji := 1) C (dk k_Z_nearIn 6 rfl) fl_Z_81 kq_128 (by decide) rfl rfl ?_
  refine V_icmpge (pc := 9) C (dk k_Z_nearIn 7 rfl) 41 rfl (by first | exact hR _ _ | with_reducible assumption | exact ⟨by omega, by omega⟩) (by first | exact hR _ _ | with_reducible assumption | exact ⟨by omega, by omega⟩) (fun h1 => ?_) (fun h1 => ?_)
  · skip
    refine V_iload_n (pc := 41) C (dk k_Z_nearIn 25 rfl) rfl ?_
    refine V_iret (pc := 42) C E (dk k_Z_nearIn 26 rfl) ?_
    obtain rfl : i = pN π := by omega
    exact ⟨rfl, rfl⟩
  · skip
    obtain ⟨gN, gP⟩ := fT i (by omega) (by omega)
    refine V_iload_n (pc := 12) C (dk k_Z_nearIn 8 rfl) rfl ?_
    refine V_aload_n (pc := 13) C (dk k_Z_nearIn 9 rfl) rfl ?_
    refine V_getr (pc := 14) (o2 := 136) C (dk k_Z_nearIn 10 rfl) fl_Z_31 kq_128 (by decide) rfl (by decide) rfl ?_
    refine V_iload_n (pc := 17) C (dk k_Z_nearIn 11 rfl) rfl ?_
    refine V_iald (pc := 18) C (dk k_Z_nearIn 12 rfl) kq_136 (by decide) (by omega) (by omega) ?_
    refine V_iconst (pc := 19) C (dk k_Z_nearIn 13 rfl) rfl ?_
    refine V_icmpne (pc := 20) C (dk k_Z_nearIn 14 rfl) 32 rfl (by first | exact hR _ _ | with_reducible assumption | exact ⟨by omega, by omega⟩) (by first | exact hR _ _ | with_reducible assumption | exact ⟨by omega, by omega⟩) (fun h2 => ?_) (fun h2 => ?_)
    · skip
      refine V_iconst (pc := 32) C (dk k_Z_nearIn 20 rfl) rfl ?_
      refine V_iadd (pc := 33) C (dk k_Z_nearIn 21 rfl) ?_
      refine V_istore_n (pc := 34) C (dk k_Z_nearIn 22 rfl) (by rw [hXN]; decide) ?_
      dsimp only [lst, lstL, lz, kill, Fin.val, Nat.reduceAdd]
      refine V_iinc (pc := 35) C (dk k_Z_nearIn 23 rfl) (by rw [hXN]; decide) rfl ?_
      dsimp only [lst, lstL, lz, kill, Fin.val, Nat.reduceAdd]
      refine V_goto (pc := 38) C (dk k_Z_nearIn 24 rfl) 4 rfl ?_
      refine V_eq (ih (i + 1) (by omega) (by omega)) ?_ rfl rfl
      show _ = [some (vR 128), some (vI (sm (fun t => if sP x t = 1 then sN x t else 0) i + (if sP x (i : Int) = 1 then sN x (i : Int) else 0))), some (vI ((i : Int) + 1))]
      first | rw [if_pos (by omega), gN] | rw [if_neg (by omega)]
    · skip
      refine V_aload_n (pc := 23) C (dk k_Z_nearIn 15 rfl) rfl ?_
      refine V_getr (pc := 24) (o2 := 135) C (dk k_Z_nearIn 16 rfl) fl_Z_28 kq_128 (by decide) rfl (by decide) rfl ?_
      refine V_iload_n (pc := 27) C (dk k_Z_nearIn 17 rfl) rfl ?_
      refine V_iald (pc := 28) C (dk k_Z_nearIn 18 rfl) kq_135 (by decide) (by omega) (by omega) ?_
      refine V_goto (pc := 29) C (dk k_Z_nearIn 19 rfl) 33 rfl ?_
      refine V_iadd (pc := 33) C (dk k_Z_nearIn 21 rfl) ?_
      refine V_istore_n (pc := 34) C (dk k_Z_nearIn 22 rfl) (by rw [hXN]; decide) ?_
      dsimp only [lst, lstL, lz, kill, Fin.val, Nat.reduceAdd]
      refine V_iinc (pc := 35) C (dk k_Z_nearIn 23 rfl) (by rw [hXN]; decide) rfl ?_
      dsimp only [lst, lstL, lz, kill, Fin.val, Nat.reduceAdd]
      refine V_goto (pc := 38) C (dk k_Z_nearIn 24 rfl) 4 rfl ?_
      refine V_eq (ih (i + 1) (by omega) (by omega)) ?_ rfl rfl
      show _ = [some (vR 128), some (vI (sm (fun t => if sP x t = 1 then sN x t else 0) i + (if sP x (i : Int) = 1 then sN x (i : Int) else 0))), some (vI ((i : Int) + 1))]
      first | rw [if_pos (by omega), gN] | rw [if_neg (by omega)]
