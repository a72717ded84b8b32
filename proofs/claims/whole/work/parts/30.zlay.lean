theorem rp_b {tx : List Int} {d d' : DS} {i i1 : Nat} (h : rpM tx d i = some (d', i1)) : i < i1 ∧ i1 ≤ i + 12 := by
  unfold rpM at h
  split at h
  · cases h
  · rcases hn : nmM tx i 0 99 59 with _ | ⟨v, i2⟩
    · rw [hn] at h; cases h
    · rw [hn] at h; cases h
      have := nm_b hn
      omega
theorem rr_b {tx : List Int} {d d' : DS} {i i1 : Nat} (h : rrM tx d i = some (d', i1)) : i < i1 ∧ i1 ≤ i + 12 := by
  unfold rrM at h
  split at h
  · cases h
  · rcases hn : nmM tx i 0 9 59 with _ | ⟨v, i2⟩
    · rw [hn] at h; cases h
    · rw [hn] at h; cases h
      have := nm_b hn
      omega
theorem rs_b {tx : List Int} {d d' : DS} {i i1 : Nat} (h : rsM tx d i = some (d', i1)) : i < i1 ∧ i1 ≤ i + 12 := by
  unfold rsM at h
  rcases hn : nmM tx i 0 99 44 with _ | ⟨v, i2⟩
  · rw [hn] at h; cases h
  · rw [hn] at h
    dsimp only at h
    rcases hm : nmM tx i2 0 20 59 with _ | ⟨v2, i3⟩
    · rw [hm] at h; cases h
    · rw [hm] at h; cases h
      have := nm_b hn
      have := nm_b hm
      omega
theorem rtM_b {tx : List Int} {d d' : DS} {i i1 : Nat} (h : rtM tx d i = some (d', i1)) : i < i1 ∧ i1 ≤ i + 12 := by
  unfold rtM at h
  split at h
  · cases h
  · rcases hn : nmM tx i 0 ((dM d).length - 1) 44 with _ | ⟨v, i2⟩
    · rw [hn] at h; cases h
    · rw [hn] at h
      dsimp only at h
      unfold rt1 at h
      rcases hm : nmM tx i2 0 3 44 with _ | ⟨v2, i3⟩
      · rw [hm] at h; cases h
      · rw [hm] at h
        dsimp only at h
        unfold rt2 at h
        rcases hp : nmM tx i3 1 20 44 with _ | ⟨v3, i4⟩
        · rw [hp] at h; cases h
        · rw [hp] at h
          dsimp only at h
          unfold rt3 at h
          rcases hq : nmM tx i4 0 20 59 with _ | ⟨v4, i5⟩
          · rw [hq] at h; cases h
          · rw [hq] at h; cases h
            have := nm_b hn
            have := nm_b hm
            have := nm_b hp
            have := nm_b hq
            omega
theorem ri_b {tx : List Int} {d d' : DS} {i i1 : Nat} (h : riM tx d i = some (d', i1)) : i < i1 ∧ i1 ≤ i + 13 := by
  unfold riM at h
  split at h
  · have := rp_b h; omega
  · split at h
    · have := rtM_b h; omega
    · split at h
      · have := rr_b h; omega
      · split at h
        · have := rs_b h; omega
        · cases h
theorem rdI_e {tx : List Int} {i : Nat} (h : tx.length ≤ i) (d : DS) : ∀ f : Nat, rdI tx f i d = (-4, d)
  | 0 => rfl
  | f + 1 => by rw [rdI_s, if_neg (by omega)]
theorem DM_0 {σ : Wd} (h1 : σ 128 21 = 0) (h2 : σ 128 22 = 0) (h3 : σ 128 23 = 0) (h4 : σ 128 24 = 60) (h5 : σ 128 25 = 4) : DM σ d0 :=
  ⟨⟨h1, h2, h3, h4, h5⟩, ⟨Nat.zero_le _, Nat.zero_le _, Nat.zero_le _⟩, fun k v h => (by simp [dM, d0] at h), fun k q h => (by simp [dT, d0] at h), fun k v h => (by simp [dX, d0] at h)⟩

def i_Z_fault : List (Nat × (Instr × Nat)) := [(0, (.aload_n 0, 1)), (1, (.iconst 0, 1)), (2, (.putfield 100, 3)), (5, (.aload_n 0, 1)), (6, (.iconst 0, 1)), (7, (.putfield 114, 3)), (10, (.aload_n 0, 1)), (11, (.iconst 0, 1)), (12, (.putfield 120, 3)), (15, (.aload_n 0, 1)), (16, (.iconst 0, 1)), (17, (.putfield 123, 3)), (20, (.aload_n 0, 1)), (21, (.bipush 60, 2)), (23, (.putfield 126, 3)), (26, (.aload_n 0, 1)), (27, (.iconst 4, 1)), (28, (.putfield 129, 3)), (31, (.aload_n 0, 1)), (32, (.getfield 100, 3)), (35, (.aload_n 0, 1)), (36, (.getfield 97, 3)), (39, (.if_icmp .ge 20, 3)), (42, (.aload_n 0, 1)), (43, (.getfield 100, 3)), (46, (.istore_n 1, 1)), (47, (.aload_n 0, 1)), (48, (.invokevirtual 144, 3)), (51, (.ifCond .ne 5, 3)), (54, (.iload_n 1, 1)), (55, (.ireturn, 1)), (56, (.goto (-25), 3)), (59, (.bipush (-4), 2)), (61, (.ireturn, 1))]
theorem k_Z_fault : i_Z_fault.all (fun q => decide (decode b_Z_fault q.1 = .ok q.2)) = true := by decide +kernel

set_option maxHeartbeats 1000000 in
set_option maxRecDepth 20000 in
theorem c_Z_fault (l : Launch) (G : GE) (σ : Wd) (π : PL) (x : ST) (us ks : List ST) (lk : List (Int × (Int × Int))) (tx : List Int) (j : Int) (hC : MR σ π x us ks lk tx) (hV : VK π x us ks j) (hj : j ≤ 100) : Ct l G y_Z_fault b_Z_fault 2 (some (.int)) 5 108 [vR 128] σ (Rt (some (vI (o_read tx).1)) (fun σ' => MR σ' π x us ks lk tx ∧ Fm σ σ' ∧ FrR σ σ' ∧ ((o_read tx).1 = -4 → DM σ' (o_read tx).2))) := by
  refine Ct.of cm_Z_fault (Nat.le_of_ble_eq_true rfl) ?_
  intro X hXl hXG hXN hRm C E
  subst hXl; subst hXG
  show V X 0 [some (vR 128), none] [] σ
  refine V_R (fun hR => ?_)
  obtain ⟨hπ, hx, hU, hK, hl, hT⟩ := id hC
  obtain ⟨ok, xk, usk, ksk, ks2⟩ := id hV
  have hπ0 := hπ
  obtain ⟨e0, e1, e2, e3, eT, eX⟩ := hπ
  have ⟨k1, k2, k3, k4, k5, k6, kT, kX⟩ := ok
  have hx0 := hx
  obtain ⟨f0, f1, fQ, fT⟩ := hx
  have ⟨x1, x2, x3, x4, xQ, xT⟩ := xk
  obtain ⟨t1, t2, t3⟩ := id hT
  refine V_aload_n (pc := 0) C (dk k_Z_fault 0 rfl) rfl ?_
  refine V_iconst (pc := 1) C (dk k_Z_fault 1 rfl) rfl ?_
  refine V_puti (pc := 2) (ji := 20) C (dk k_Z_fault 2 rfl) fl_Z_100 fw_9_20 kq_128 (by decide) rfl rfl R0 ?_
  refine V_R (fun hR => ?_)
  refine V_aload_n (pc := 5) C (dk k_Z_fault 3 rfl) rfl ?_
  refine V_iconst (pc := 6) C (dk k_Z_fault 4 rfl) rfl ?_
  refine V_puti (pc := 7) (ji := 21) C (dk k_Z_fault 5 rfl) fl_Z_114 fw_9_21 kq_128 (by decide) rfl rfl R0 ?_
  refine V_R (fun hR => ?_)
  refine V_aload_n (pc := 10) C (dk k_Z_fault 6 rfl) rfl ?_
  refine V_iconst (pc := 11) C (dk k_Z_fault 7 rfl) rfl ?_
  refine V_puti (pc := 12) (ji := 22) C (dk k_Z_fault 8 rfl) fl_Z_120 fw_9_22 kq_128 (by decide) rfl rfl R0 ?_
  refine V_R (fun hR => ?_)
  refine V_aload_n (pc := 15) C (dk k_Z_fault 9 rfl) rfl ?_
  refine V_iconst (pc := 16) C (dk k_Z_fault 10 rfl) rfl ?_
  refine V_puti (pc := 17) (ji := 23) C (dk k_Z_fault 11 rfl) fl_Z_123 fw_9_23 kq_128 (by decide) rfl rfl R0 ?_
  refine V_R (fun hR => ?_)
  refine V_aload_n (pc := 20) C (dk k_Z_fault 12 rfl) rfl ?_
  refine V_bipush (pc := 21) (n' := 60) C (dk k_Z_fault 13 rfl) rfl ?_
  refine V_puti (pc := 23) (ji := 24) C (dk k_Z_fault 14 rfl) fl_Z_126 fw_9_24 kq_128 (by decide) rfl rfl ⟨by decide, by decide⟩ ?_
  refine V_R (fun hR => ?_)
  refine V_aload_n (pc := 26) C (dk k_Z_fault 15 rfl) rfl ?_
  refine V_iconst (pc := 27) C (dk k_Z_fault 16 rfl) rfl ?_
  refine V_puti (pc := 28) (ji := 25) C (dk k_Z_fault 17 rfl) fl_Z_129 fw_9_25 kq_128 (by decide) rfl rfl ⟨by decide, by decide⟩ ?_
  refine V_R (fun hR => ?_)
  refine V_eq (V_loop (fun q : Nat × (Wd × (DS × Nat)) => q.1 ≤ 300 ∧ q.2.1 128 20 = q.1 ∧ DM q.2.1 q.2.2.1 ∧ FrR σ q.2.1 ∧ 200 ≤ q.2.2.2 + q.1 ∧ o_read tx = rdI tx q.2.2.2 q.1 q.2.2.1) (fun _ => [some (vR 128), none]) (fun q => q.2.1) (fun q => 300 - q.1) (fun q hq ih => ?_) (0, (up (up (up (up (up (up σ 128 20 0) 128 21 0) 128 22 0) 128 23 0) 128 24 60) 128 25 4, (d0, 200))) ⟨Nat.zero_le _, ?_, DM_0 ?_ ?_ ?_ ?_ ?_, ((((((FrR.rf σ).up 128 _ _ (by omega)).up 128 _ _ (by omega)).up 128 _ _ (by omega)).up 128 _ _ (by omega)).up 128 _ _ (by omega)).up 128 _ _ (by omega), Nat.le_refl 200, rfl⟩) rfl rfl rfl
  rotate_left
  any_goals (dsimp only; simp (disch := omega) only [up_ne2, up_at]; done)
  any_goals (dsimp only; simp (disch := omega) only [up_ne2, up_at]; rfl)
  obtain ⟨i, τ, d, f⟩ := q
  obtain ⟨hi, h20τ, hdτ, hfr, hfu, ho⟩ := hq
  dsimp only at hi h20τ hdτ hfr hfu ho ih ⊢
  refine V_R (fun hR => ?_)
  have hTτ := hfr.tx hT
  refine V_aload_n (pc := 31) C (dk k_Z_fault 18 rfl) rfl ?_
  refine V_geti (pc := 32) (ji := 20) C (dk k_Z_fault 19 rfl) fl_Z_100 kq_128 (by decide) rfl rfl ?_
  refine V_aload_n (pc := 35) C (dk k_Z_fault 20 rfl) rfl ?_
  refine V_geti (pc := 36) (ji := 19) C (dk k_Z_fault 21 rfl) fl_Z_97 kq_128 (by decide) rfl rfl ?_
  rw [h20τ, hTτ.1]
  refine V_icmpge (pc := 39) C (dk k_Z_fault 22 rfl) 59 rfl (by first | exact hR _ _ | with_reducible assumption | exact ⟨by omega, by omega⟩) (by first | exact hR _ _ | with_reducible assumption | exact ⟨by omega, by omega⟩) (fun h1 => ?_) (fun h1 => ?_)
  · skip
    refine V_bipush (pc := 59) (n' := (-4)) C (dk k_Z_fault 32 rfl) rfl ?_
    refine V_iret (pc := 61) C E (dk k_Z_fault 33 rfl) ?_
    have e : o_read tx = (-4, d) := by rw [ho]; exact rdI_e (by omega) d f
    exact ⟨by rw [e], MR.st ok hC hfr.x (hx0.fx (fun k i a => hfr k i (by omega) (by omega))), hfr.x.m, hfr, fun _ => by rw [e]; exact hdτ⟩
  · skip
    obtain ⟨f1, rfl⟩ : ∃ f1, f = f1 + 1 := ⟨f - 1, by omega⟩
    refine V_aload_n (pc := 42) C (dk k_Z_fault 23 rfl) rfl ?_
    refine V_geti (pc := 43) (ji := 20) C (dk k_Z_fault 24 rfl) fl_Z_100 kq_128 (by decide) rfl rfl ?_
    rw [h20τ]
    refine V_istore_n (pc := 46) C (dk k_Z_fault 25 rfl) (by rw [hXN]; decide) ?_
    dsimp only [lst, lstL, lz, kill, Fin.val, Nat.reduceAdd]
    refine V_aload_n (pc := 47) C (dk k_Z_fault 26 rfl) rfl ?_
    refine V_callVr (pc := 48) C (dk k_Z_fault 27 rfl) lk_Z_144 cm_Z_readsItem vm_Z_readsItem (c_Z_readsItem _ _ _ tx d i hTτ h20τ (by omega) hdτ) kq_128 rfl rfl rfl (Nat.le_of_ble_eq_true rfl) (Rm.mono hRm (by decide) (by decide)) (fun τ2 hq2 => ?_)
    refine V_R (fun hR => ?_)
    refine V_ifneB (pc := 51) C (dk k_Z_fault 28 rfl) 56 rfl (fun h2 => ?_) (fun h2 => ?_)
    · skip
      refine V_goto (pc := 56) C (dk k_Z_fault 31 rfl) 31 rfl ?_
      obtain ⟨⟨d2, i2⟩, hs⟩ := Option.isSome_iff_exists.mp (by assumption : (riM tx d i).isSome = true)
      obtain ⟨y1, y2⟩ := hq2.1 d2 i2 hs
      have ⟨y3, y4⟩ := ri_b hs
      refine V_fg 1 ?_
      dsimp only [fg]
      exact ih (i2, (τ2, (d2, f1))) ⟨by dsimp only; omega, y2, y1, hfr.tr hq2.2, by dsimp only; omega, by rw [ho]; exact (rdI_M hdτ.2.1 (by omega)).2 d2 i2 hs⟩ (by dsimp only; omega)
    · skip
      refine V_iload_n (pc := 54) C (dk k_Z_fault 29 rfl) rfl ?_
      refine V_iret (pc := 55) C E (dk k_Z_fault 30 rfl) ?_
      have e : o_read tx = ((i : Int), d) := by rw [ho]; exact (rdI_M hdτ.2.1 (by omega)).1 (isn (show ¬ (riM tx d i).isSome = true by assumption))
      have hFR : FrR σ τ2 := hfr.tr hq2.2
      exact ⟨by rw [e], MR.st ok hC hFR.x (hx0.fx (fun k i a => hFR k i (by omega) (by omega))), hFR.x.m, hFR, fun q => by rw [e] at q; dsimp only at q; omega⟩

def i_Z_sets : List (Nat × (Instr × Nat)) := [(0, (.aload_n 0, 1)), (1, (.getfield 13, 3)), (4, (.iload_n 1, 1)), (5, (.iload_n 2, 1)), (6, (.iastore, 1)), (7, (.aload_n 0, 1)), (8, (.getfield 16, 3)), (11, (.iload_n 1, 1)), (12, (.iload_n 3, 1)), (13, (.iastore, 1)), (14, (.aload_n 0, 1)), (15, (.getfield 28, 3)), (18, (.iload_n 1, 1)), (19, (.iload 4, 2)), (21, (.iastore, 1)), (22, (.aload_n 0, 1)), (23, (.getfield 19, 3)), (26, (.iload_n 1, 1)), (27, (.iload 5, 2)), (29, (.iastore, 1)), (30, (.aload_n 0, 1)), (31, (.getfield 31, 3)), (34, (.iload_n 1, 1)), (35, (.iconst 0, 1)), (36, (.iastore, 1)), (37, (.return_, 1))]
theorem k_Z_sets : i_Z_sets.all (fun q => decide (decode b_Z_sets q.1 = .ok q.2)) = true := by decide +kernel

set_option maxHeartbeats 1000000 in
set_option maxRecDepth 20000 in
theorem c_Z_sets (l : Launch) (G : GE) (σ : Wd) (t a b c e : Int) (ht0 : 0 ≤ t) (ht1 : t < 8) (ha : inR a) (hb : inR b) (hc : inR c) (he : inR e) : Ct l G y_Z_sets b_Z_sets 6 (none) 0 0 [vR 128, vI t, vI a, vI b, vI c, vI e] σ (Dt none (up (up (up (up (up σ 130 t a) 131 t b) 135 t c) 132 t e) 136 t 0)) := by
  refine Ct.of cm_Z_sets (Nat.le_of_ble_eq_true rfl) ?_
  intro X hXl hXG hXN hRm C E
  subst hXl; subst hXG
  have ⟨ha_1, ha_2⟩ := ha
  have ⟨hb_1, hb_2⟩ := hb
  have ⟨hc_1, hc_2⟩ := hc
  have ⟨he_1, he_2⟩ := he
  show V X 0 [some (vR 128), some (vI t), some (vI a), some (vI b), some (vI c), some (vI e)] [] σ
  refine V_R (fun hR => ?_)
  refine V_aload_n (pc := 0) C (dk k_Z_sets 0 rfl) rfl ?_
  refine V_getr (pc := 1) (o2 := 130) C (dk k_Z_sets 1 rfl) fl_Z_13 kq_128 (by decide) rfl (by decide) rfl ?_
  refine V_iload_n (pc := 4) C (dk k_Z_sets 2 rfl) rfl ?_
  refine V_iload_n (pc := 5) C (dk k_Z_sets 3 rfl) rfl ?_
  refine V_iast (pc := 6) C (dk k_Z_sets 4 rfl) kq_130 (by decide) ht0 (by omega) ha ?_
  refine V_R (fun hR => ?_)
  refine V_aload_n (pc := 7) C (dk k_Z_sets 5 rfl) rfl ?_
  refine V_getr (pc := 8) (o2 := 131) C (dk k_Z_sets 6 rfl) fl_Z_16 kq_128 (by decide) rfl (by decide) rfl ?_
  refine V_iload_n (pc := 11) C (dk k_Z_sets 7 rfl) rfl ?_
  refine V_iload_n (pc := 12) C (dk k_Z_sets 8 rfl) rfl ?_
  refine V_iast (pc := 13) C (dk k_Z_sets 9 rfl) kq_131 (by decide) ht0 (by omega) hb ?_
  refine V_R (fun hR => ?_)
  refine V_aload_n (pc := 14) C (dk k_Z_sets 10 rfl) rfl ?_
  refine V_getr (pc := 15) (o2 := 135) C (dk k_Z_sets 11 rfl) fl_Z_28 kq_128 (by decide) rfl (by decide) rfl ?_
  refine V_iload_n (pc := 18) C (dk k_Z_sets 12 rfl) rfl ?_
  refine V_iload (pc := 19) C (dk k_Z_sets 13 rfl) rfl ?_
  refine V_iast (pc := 21) C (dk k_Z_sets 14 rfl) kq_135 (by decide) ht0 (by omega) hc ?_
  refine V_R (fun hR => ?_)
  refine V_aload_n (pc := 22) C (dk k_Z_sets 15 rfl) rfl ?_
  refine V_getr (pc := 23) (o2 := 132) C (dk k_Z_sets 16 rfl) fl_Z_19 kq_128 (by decide) rfl (by decide) rfl ?_
  refine V_iload_n (pc := 26) C (dk k_Z_sets 17 rfl) rfl ?_
  refine V_iload (pc := 27) C (dk k_Z_sets 18 rfl) rfl ?_
  refine V_iast (pc := 29) C (dk k_Z_sets 19 rfl) kq_132 (by decide) ht0 (by omega) he ?_
  refine V_R (fun hR => ?_)
  refine V_aload_n (pc := 30) C (dk k_Z_sets 20 rfl) rfl ?_
  refine V_getr (pc := 31) (o2 := 136) C (dk k_Z_sets 21 rfl) fl_Z_31 kq_128 (by decide) rfl (by decide) rfl ?_
  refine V_iload_n (pc := 34) C (dk k_Z_sets 22 rfl) rfl ?_
  refine V_iconst (pc := 35) C (dk k_Z_sets 23 rfl) rfl ?_
  refine V_iast (pc := 36) C (dk k_Z_sets 24 rfl) kq_136 (by decide) ht0 (by omega) R0 ?_
  refine V_R (fun hR => ?_)
  refine V_vret (pc := 37) C E (dk k_Z_sets 25 rfl) ?_
  first | exact ⟨rfl, rfl⟩ | (refine ⟨?_, rfl⟩; first | (rw [if_pos (by omega)]; done) | (rw [if_neg (by omega)]; done))

def i_Z_lay : List (Nat × (Instr × Nat)) := [(0, (.aload_n 0, 1)), (1, (.invokevirtual 147, 3)), (4, (.bipush (-4), 2)), (6, (.if_icmp .ne 10, 3)), (9, (.aload_n 0, 1)), (10, (.getfield 114, 3)), (13, (.ifCond .ne 6, 3)), (16, (.bipush (-2), 2)), (18, (.ireturn, 1)), (19, (.aload_n 0, 1)), (20, (.aload_n 0, 1)), (21, (.getfield 114, 3)), (24, (.putfield 73, 3)), (27, (.aload_n 0, 1)), (28, (.aload_n 0, 1)), (29, (.getfield 120, 3)), (32, (.putfield 81, 3)), (35, (.aload_n 0, 1)), (36, (.aload_n 0, 1)), (37, (.getfield 123, 3)), (40, (.putfield 84, 3)), (43, (.aload_n 0, 1)), (44, (.aload_n 0, 1)), (45, (.getfield 129, 3)), (48, (.putfield 90, 3)), (51, (.aload_n 0, 1)), (52, (.aload_n 0, 1)), (53, (.getfield 126, 3)), (56, (.putfield 87, 3)), (59, (.iconst 0, 1)), (60, (.istore_n 1, 1)), (61, (.iload_n 1, 1)), (62, (.iconst 5, 1)), (63, (.if_icmp .ge 28, 3)), (66, (.aload_n 0, 1)), (67, (.getfield 22, 3)), (70, (.iload_n 1, 1)), (71, (.aload_n 0, 1)), (72, (.getfield 46, 3)), (75, (.iload_n 1, 1)), (76, (.iaload, 1)), (77, (.iastore, 1)), (78, (.aload_n 0, 1)), (79, (.getfield 25, 3)), (82, (.iload_n 1, 1)), (83, (.iconst 0, 1)), (84, (.iastore, 1)), (85, (.iinc 1 1, 3)), (88, (.goto (-27), 3)), (91, (.iconst 0, 1)), (92, (.istore_n 1, 1)), (93, (.iload_n 1, 1)), (94, (.bipush 8, 2)), (96, (.if_icmp .ge 52, 3)), (99, (.aload_n 0, 1)), (100, (.iload_n 1, 1)), (101, (.aload_n 0, 1)), (102, (.getfield 49, 3)), (105, (.iconst 4, 1)), (106, (.iload_n 1, 1)), (107, (.imul, 1)), (108, (.iaload, 1)), (109, (.aload_n 0, 1)), (110, (.getfield 49, 3)), (113, (.iconst 4, 1)), (114, (.iload_n 1, 1)), (115, (.imul, 1)), (116, (.iconst 1, 1)), (117, (.iadd, 1)), (118, (.iaload, 1)), (119, (.aload_n 0, 1)), (120, (.getfield 49, 3)), (123, (.iconst 4, 1)), (124, (.iload_n 1, 1)), (125, (.imul, 1)), (126, (.iconst 2, 1)), (127, (.iadd, 1)), (128, (.iaload, 1)), (129, (.aload_n 0, 1)), (130, (.getfield 49, 3)), (133, (.iconst 4, 1)), (134, (.iload_n 1, 1)), (135, (.imul, 1)), (136, (.iconst 3, 1)), (137, (.iadd, 1)), (138, (.iaload, 1)), (139, (.invokevirtual 77, 3)), (142, (.iinc 1 1, 3)), (145, (.goto (-52), 3)), (148, (.iconst 0, 1)), (149, (.istore_n 1, 1)), (150, (.iload_n 1, 1)), (151, (.bipush 12, 2)), (153, (.if_icmp .ge 21, 3)), (156, (.aload_n 0, 1)), (157, (.getfield 9, 3)), (160, (.iload_n 1, 1)), (161, (.aload_n 0, 1)), (162, (.getfield 52, 3)), (165, (.iload_n 1, 1)), (166, (.iaload, 1)), (167, (.iastore, 1)), (168, (.iinc 1 1, 3)), (171, (.goto (-21), 3)), (174, (.aload_n 0, 1)), (175, (.iconst 0, 1)), (176, (.putfield 150, 3)), (179, (.aload_n 0, 1)), (180, (.iconst 0, 1)), (181, (.putfield 153, 3)), (184, (.aload_n 0, 1)), (185, (.iconst 0, 1)), (186, (.putfield 156, 3)), (189, (.aload_n 0, 1)), (190, (.iconst 0, 1)), (191, (.putfield 159, 3)), (194, (.aload_n 0, 1)), (195, (.getfield 73, 3)), (198, (.ireturn, 1))]
theorem k_Z_lay : i_Z_lay.all (fun q => decide (decode b_Z_lay q.1 = .ok q.2)) = true := by decide +kernel

set_option maxHeartbeats 2000000 in
set_option maxRecDepth 20000 in
theorem c_Z_lay (l : Launch) (G : GE) (σ : Wd) (π : PL) (x : ST) (us ks : List ST) (lk : List (Int × (Int × Int))) (tx : List Int) (j : Int) (hC : MR σ π x us ks lk tx) (hV : VK π x us ks j) (hj : j ≤ 100) (hok : (o_read tx).1 = -4 ∧ dM (o_read tx).2 ≠ []) : Ct l G y_Z_lay b_Z_lay 2 (some (.int)) 6 129 [vR 128] σ (Rt (some (vI (dM (o_read tx).2).length)) (fun σ' => MR σ' (piO (o_read tx).2) (stO (o_read tx).2) [] [] [] tx ∧ Fm σ σ')) := by
  refine Ct.of cm_Z_lay (Nat.le_of_ble_eq_true rfl) ?_
  intro X hXl hXG hXN hRm C E
  subst hXl; subst hXG
  show V X 0 [some (vR 128), none] [] σ
  refine V_R (fun hR => ?_)
  obtain ⟨hπ, hx, hU, hK, hl, hT⟩ := id hC
  obtain ⟨ok, xk, usk, ksk, ks2⟩ := id hV
  have hπ0 := hπ
  obtain ⟨e0, e1, e2, e3, eT, eX⟩ := hπ
  have ⟨k1, k2, k3, k4, k5, k6, kT, kX⟩ := ok
  have hx0 := hx
  obtain ⟨f0, f1, fQ, fT⟩ := hx
  have ⟨x1, x2, x3, x4, xQ, xT⟩ := xk
  obtain ⟨t1, t2, t3⟩ := id hT
  have hrr : inR (o_read tx).1 := o_read_R tx t2
  refine V_aload_n (pc := 0) C (dk k_Z_lay 0 rfl) rfl ?_
  refine V_callVr (pc := 1) C (dk k_Z_lay 1 rfl) lk_Z_147 cm_Z_fault vm_Z_fault (c_Z_fault _ _ _ π x us ks lk tx j hC hV hj) kq_128 rfl rfl rfl (Nat.le_of_ble_eq_true rfl) (Rm.mono hRm (by decide) (by decide)) (fun τ1 hq1 => ?_)
  refine V_R (fun hR => ?_)
  have hD := hq1.2.2.2 hok.1
  have hlen : 0 < (dM (o_read tx).2).length := Nat.pos_of_ne_zero (fun h => hok.2 (List.eq_nil_of_length_eq_zero h))
  have hD0 := hD.1.1
  refine V_bipush (pc := 4) (n' := (-4)) C (dk k_Z_lay 2 rfl) rfl ?_
  refine V_icmpne (pc := 6) C (dk k_Z_lay 3 rfl) 16 rfl hrr ⟨by decide, by decide⟩ (fun h1 => ?_) (fun h1 => ?_)
  · skip
    exfalso; omega
  · skip
    refine V_aload_n (pc := 9) C (dk k_Z_lay 4 rfl) rfl ?_
    refine V_geti (pc := 10) (ji := 21) C (dk k_Z_lay 5 rfl) fl_Z_114 kq_128 (by decide) rfl rfl ?_
    refine V_ifne (pc := 13) C (dk k_Z_lay 6 rfl) 19 rfl (by first | exact hR _ _ | with_reducible assumption | exact ⟨by omega, by omega⟩) (fun h2 => ?_) (fun h2 => ?_)
    · skip
      refine V_aload_n (pc := 19) C (dk k_Z_lay 9 rfl) rfl ?_
      refine V_aload_n (pc := 20) C (dk k_Z_lay 10 rfl) rfl ?_
      refine V_geti (pc := 21) (ji := 21) C (dk k_Z_lay 11 rfl) fl_Z_114 kq_128 (by decide) rfl rfl ?_
      refine V_puti (pc := 24) (ji := 0) C (dk k_Z_lay 12 rfl) fl_Z_73 fw_9_0 kq_128 (by decide) rfl rfl (by first | exact hR _ _ | with_reducible assumption | exact ⟨by omega, by omega⟩) ?_
      refine V_R (fun hR => ?_)
      refine V_aload_n (pc := 27) C (dk k_Z_lay 13 rfl) rfl ?_
      refine V_aload_n (pc := 28) C (dk k_Z_lay 14 rfl) rfl ?_
      refine V_geti (pc := 29) (ji := 22) C (dk k_Z_lay 15 rfl) fl_Z_120 kq_128 (by decide) rfl rfl ?_
      refine V_puti (pc := 32) (ji := 1) C (dk k_Z_lay 16 rfl) fl_Z_81 fw_9_1 kq_128 (by decide) rfl rfl (by first | exact hR _ _ | with_reducible assumption | exact ⟨by omega, by omega⟩) ?_
      refine V_R (fun hR => ?_)
      refine V_aload_n (pc := 35) C (dk k_Z_lay 17 rfl) rfl ?_
      refine V_aload_n (pc := 36) C (dk k_Z_lay 18 rfl) rfl ?_
      refine V_geti (pc := 37) (ji := 23) C (dk k_Z_lay 19 rfl) fl_Z_123 kq_128 (by decide) rfl rfl ?_
      refine V_puti (pc := 40) (ji := 2) C (dk k_Z_lay 20 rfl) fl_Z_84 fw_9_2 kq_128 (by decide) rfl rfl (by first | exact hR _ _ | with_reducible assumption | exact ⟨by omega, by omega⟩) ?_
      refine V_R (fun hR => ?_)
      refine V_aload_n (pc := 43) C (dk k_Z_lay 21 rfl) rfl ?_
      refine V_aload_n (pc := 44) C (dk k_Z_lay 22 rfl) rfl ?_
      refine V_geti (pc := 45) (ji := 25) C (dk k_Z_lay 23 rfl) fl_Z_129 kq_128 (by decide) rfl rfl ?_
      refine V_puti (pc := 48) (ji := 3) C (dk k_Z_lay 24 rfl) fl_Z_90 fw_9_3 kq_128 (by decide) rfl rfl (by first | exact hR _ _ | with_reducible assumption | exact ⟨by omega, by omega⟩) ?_
      refine V_R (fun hR => ?_)
      refine V_aload_n (pc := 51) C (dk k_Z_lay 25 rfl) rfl ?_
      refine V_aload_n (pc := 52) C (dk k_Z_lay 26 rfl) rfl ?_
      refine V_geti (pc := 53) (ji := 24) C (dk k_Z_lay 27 rfl) fl_Z_126 kq_128 (by decide) rfl rfl ?_
      refine V_puti (pc := 56) (ji := 9) C (dk k_Z_lay 28 rfl) fl_Z_87 fw_9_9 kq_128 (by decide) rfl rfl (by first | exact hR _ _ | with_reducible assumption | exact ⟨by omega, by omega⟩) ?_
      refine V_R (fun hR => ?_)
      obtain ⟨τ2, e2, g0, g1, g2, g3, g9, gf⟩ : ∃ τ2 : Wd, (up (up (up (up (up τ1 128 0 (τ1 128 21)) 128 1 ((up τ1 128 0 (τ1 128 21)) 128 22)) 128 2 ((up (up τ1 128 0 (τ1 128 21)) 128 1 ((up τ1 128 0 (τ1 128 21)) 128 22)) 128 23)) 128 3 ((up (up (up τ1 128 0 (τ1 128 21)) 128 1 ((up τ1 128 0 (τ1 128 21)) 128 22)) 128 2 ((up (up τ1 128 0 (τ1 128 21)) 128 1 ((up τ1 128 0 (τ1 128 21)) 128 22)) 128 23)) 128 25)) 128 9 ((up (up (up (up τ1 128 0 (τ1 128 21)) 128 1 ((up τ1 128 0 (τ1 128 21)) 128 22)) 128 2 ((up (up τ1 128 0 (τ1 128 21)) 128 1 ((up τ1 128 0 (τ1 128 21)) 128 22)) 128 23)) 128 3 ((up (up (up τ1 128 0 (τ1 128 21)) 128 1 ((up τ1 128 0 (τ1 128 21)) 128 22)) 128 2 ((up (up τ1 128 0 (τ1 128 21)) 128 1 ((up τ1 128 0 (τ1 128 21)) 128 22)) 128 23)) 128 25)) 128 24)) = τ2 ∧ τ2 128 0 = τ1 128 21 ∧ τ2 128 1 = τ1 128 22 ∧ τ2 128 2 = τ1 128 23 ∧ τ2 128 3 = τ1 128 25 ∧ τ2 128 9 = τ1 128 24 ∧ (∀ (k : Nat) (i : Int), ¬ (k = 128 ∧ (i = 0 ∨ i = 1 ∨ i = 2 ∨ i = 3 ∨ i = 9)) → τ2 k i = τ1 k i) := ⟨_, rfl, by simp (disch := omega) only [up_ne2, up_at], by simp (disch := omega) only [up_ne2, up_at], by simp (disch := omega) only [up_ne2, up_at], by simp (disch := omega) only [up_ne2, up_at], by simp (disch := omega) only [up_ne2, up_at], fun k i a => by rw [up_off _ _ (by omega), up_off _ _ (by omega), up_off _ _ (by omega), up_off _ _ (by omega), up_off _ _ (by omega)]⟩
      rw [e2]
      refine V_iconst (pc := 59) C (dk k_Z_lay 29 rfl) rfl ?_
      refine V_istore_n (pc := 60) C (dk k_Z_lay 30 rfl) (by rw [hXN]; decide) ?_
      dsimp only [lst, lstL, lz, kill, Fin.val, Nat.reduceAdd]
      refine V_eq (V_loop (fun q : Nat × Wd => q.1 ≤ 5 ∧ (∀ u : Int, 0 ≤ u → u < q.1 → q.2 133 u = τ2 141 u ∧ q.2 134 u = 0) ∧ (∀ (k : Nat) (i : Int), k ≠ 133 → k ≠ 134 → q.2 k i = τ2 k i)) (fun q => [some (vR 128), some (vI (q.1 : Int))]) (fun q => q.2) (fun q => 5 - q.1) (fun q hq ih1 => ?_) (0, τ2) ⟨Nat.zero_le _, fun u a b => by dsimp only at b; omega, fun _ _ _ _ => rfl⟩) rfl rfl rfl
      obtain ⟨p, ρ1⟩ := q
      obtain ⟨hp, l1, f1⟩ := hq
      dsimp only at hp l1 f1 ih1 ⊢
      refine V_R (fun hR => ?_)
      refine V_iload_n (pc := 61) C (dk k_Z_lay 31 rfl) rfl ?_
      refine V_iconst (pc := 62) C (dk k_Z_lay 32 rfl) rfl ?_
      refine V_icmpge (pc := 63) C (dk k_Z_lay 33 rfl) 91 rfl (by first | exact hR _ _ | with_reducible assumption | exact ⟨by omega, by omega⟩) (by first | exact hR _ _ | with_reducible assumption | exact ⟨by omega, by omega⟩) (fun h3 => ?_) (fun h3 => ?_)
      · skip
        obtain rfl : p = 5 := by omega
        refine V_iconst (pc := 91) C (dk k_Z_lay 49 rfl) rfl ?_
        refine V_istore_n (pc := 92) C (dk k_Z_lay 50 rfl) (by rw [hXN]; decide) ?_
        dsimp only [lst, lstL, lz, kill, Fin.val, Nat.reduceAdd]
        refine V_eq (V_loop (fun q : Nat × Wd => q.1 ≤ 8 ∧ (∀ u : Int, 0 ≤ u → u < q.1 → q.2 130 u = τ2 142 (4 * u) ∧ q.2 131 u = τ2 142 (4 * u + 1) ∧ q.2 135 u = τ2 142 (4 * u + 2) ∧ q.2 132 u = τ2 142 (4 * u + 3) ∧ q.2 136 u = 0) ∧ (∀ (k : Nat) (i : Int), ¬ (k = 130 ∨ k = 131 ∨ k = 132 ∨ k = 135 ∨ k = 136) → q.2 k i = ρ1 k i)) (fun q => [some (vR 128), some (vI (q.1 : Int))]) (fun q => q.2) (fun q => 8 - q.1) (fun q hq ih2 => ?_) (0, ρ1) ⟨Nat.zero_le _, fun u a b => by dsimp only at b; omega, fun _ _ _ => rfl⟩) rfl rfl rfl
        obtain ⟨t, ρ2⟩ := q
        obtain ⟨ht, l2, f2⟩ := hq
        dsimp only at ht l2 f2 ih2 ⊢
        refine V_R (fun hR => ?_)
        refine V_iload_n (pc := 93) C (dk k_Z_lay 51 rfl) rfl ?_
        refine V_bipush (pc := 94) (n' := 8) C (dk k_Z_lay 52 rfl) rfl ?_
        refine V_icmpge (pc := 96) C (dk k_Z_lay 53 rfl) 148 rfl (by first | exact hR _ _ | with_reducible assumption | exact ⟨by omega, by omega⟩) (by first | exact hR _ _ | with_reducible assumption | exact ⟨by omega, by omega⟩) (fun h4 => ?_) (fun h4 => ?_)
        · skip
          obtain rfl : t = 8 := by omega
          refine V_iconst (pc := 148) C (dk k_Z_lay 89 rfl) rfl ?_
          refine V_istore_n (pc := 149) C (dk k_Z_lay 90 rfl) (by rw [hXN]; decide) ?_
          dsimp only [lst, lstL, lz, kill, Fin.val, Nat.reduceAdd]
          refine V_eq (V_loop (fun q : Nat × Wd => q.1 ≤ 12 ∧ (∀ u : Int, 0 ≤ u → u < q.1 → q.2 129 u = τ2 143 u) ∧ (∀ (k : Nat) (i : Int), k ≠ 129 → q.2 k i = ρ2 k i)) (fun q => [some (vR 128), some (vI (q.1 : Int))]) (fun q => q.2) (fun q => 12 - q.1) (fun q hq ih3 => ?_) (0, ρ2) ⟨Nat.zero_le _, fun u a b => by dsimp only at b; omega, fun _ _ _ => rfl⟩) rfl rfl rfl
          obtain ⟨r, ρ3⟩ := q
          obtain ⟨hr, l3, f3⟩ := hq
          dsimp only at hr l3 f3 ih3 ⊢
          refine V_R (fun hR => ?_)
          refine V_iload_n (pc := 150) C (dk k_Z_lay 91 rfl) rfl ?_
          refine V_bipush (pc := 151) (n' := 12) C (dk k_Z_lay 92 rfl) rfl ?_
          refine V_icmpge (pc := 153) C (dk k_Z_lay 93 rfl) 174 rfl (by first | exact hR _ _ | with_reducible assumption | exact ⟨by omega, by omega⟩) (by first | exact hR _ _ | with_reducible assumption | exact ⟨by omega, by omega⟩) (fun h5 => ?_) (fun h5 => ?_)
          · skip
            obtain rfl : r = 12 := by omega
            refine V_aload_n (pc := 174) C (dk k_Z_lay 104 rfl) rfl ?_
            refine V_iconst (pc := 175) C (dk k_Z_lay 105 rfl) rfl ?_
            refine V_puti (pc := 176) (ji := 8) C (dk k_Z_lay 106 rfl) fl_Z_150 fw_9_8 kq_128 (by decide) rfl rfl R0 ?_
            refine V_R (fun hR => ?_)
            refine V_aload_n (pc := 179) C (dk k_Z_lay 107 rfl) rfl ?_
            refine V_iconst (pc := 180) C (dk k_Z_lay 108 rfl) rfl ?_
            refine V_puti (pc := 181) (ji := 14) C (dk k_Z_lay 109 rfl) fl_Z_153 fw_9_14 kq_128 (by decide) rfl rfl R0 ?_
            refine V_R (fun hR => ?_)
            refine V_aload_n (pc := 184) C (dk k_Z_lay 110 rfl) rfl ?_
            refine V_iconst (pc := 185) C (dk k_Z_lay 111 rfl) rfl ?_
            refine V_puti (pc := 186) (ji := 31) C (dk k_Z_lay 112 rfl) fl_Z_156 fw_9_31 kq_128 (by decide) rfl rfl R0 ?_
            refine V_R (fun hR => ?_)
            refine V_aload_n (pc := 189) C (dk k_Z_lay 113 rfl) rfl ?_
            refine V_iconst (pc := 190) C (dk k_Z_lay 114 rfl) rfl ?_
            refine V_puti (pc := 191) (ji := 38) C (dk k_Z_lay 115 rfl) fl_Z_159 fw_9_38 kq_128 (by decide) rfl rfl R0 ?_
            refine V_R (fun hR => ?_)
            refine V_aload_n (pc := 194) C (dk k_Z_lay 116 rfl) rfl ?_
            refine V_geti (pc := 195) (ji := 0) C (dk k_Z_lay 117 rfl) fl_Z_73 kq_128 (by decide) rfl rfl ?_
            refine V_iret (pc := 198) C E (dk k_Z_lay 118 rfl) ?_
            obtain ⟨⟨h1, h2, h3, h4, h5⟩, ⟨y1, y2, y3⟩, gA, gB, gC⟩ := hD
            have fr : ∀ (k : Nat) (i : Int), ¬ (129 ≤ k ∧ k ≤ 136) → ρ3 k i = τ2 k i := fun k i a => (f3 k i (by omega)).trans ((f2 k i (by omega)).trans (f1 k i (by omega) (by omega)))
            have q0 : ∀ i : Int, i = 0 ∨ i = 1 ∨ i = 2 ∨ i = 3 ∨ i = 9 → up (up (up (up ρ3 128 8 0) 128 14 0) 128 31 0) 128 38 0 128 i = τ2 128 i := fun i a => by rw [up_ne2 _ (by omega), up_ne2 _ (by omega), up_ne2 _ (by omega), up_ne2 _ (by omega)]; exact fr 128 i (by omega)
            have q1 : ∀ (k : Nat) (i : Int), k ≠ 128 → up (up (up (up ρ3 128 8 0) 128 14 0) 128 31 0) 128 38 0 k i = ρ3 k i := fun k i a => by rw [up_ne1 _ _ _ _ a, up_ne1 _ _ _ _ a, up_ne1 _ _ _ _ a, up_ne1 _ _ _ _ a]
            refine ⟨?_, ⟨⟨(q0 0 (by omega)).trans (g0.trans h1), (q0 1 (by omega)).trans (g1.trans h2), (q0 2 (by omega)).trans (g2.trans h3), (q0 3 (by omega)).trans (g3.trans h5), fun t a b => ?_, fun r a b => ?_⟩, ⟨?_, (q0 9 (by omega)).trans (g9.trans h4), fun q a b => ?_, fun t a b => ?_⟩, ⟨?_, by simp, fun k y h => (by simp at h)⟩, ⟨?_, by simp, fun k y h => (by simp at h)⟩, ⟨?_, by simp, fun k y h => (by simp at h)⟩, ?_⟩, ?_⟩
            · rw [q0 0 (by omega), g0, h1]
            · have b : t < ((dT (o_read tx).2).length : Int) := b
              have g := gB t.toNat _ (getO (0, (0, (0, 0))) a b)
              rw [Int.toNat_of_nonneg a] at g
              obtain ⟨m1, m2, m3, m4, m5⟩ := l2 t a (by omega)
              rw [q1 130 t (by decide), q1 131 t (by decide), q1 132 t (by decide), f3 130 t (by decide), f3 131 t (by decide), f3 132 t (by decide), m1, m2, m4, gf 142 _ (by omega), gf 142 _ (by omega), gf 142 _ (by omega)]
              exact ⟨g.1, g.2.1, g.2.2.2⟩
            · have b : r < ((dX (o_read tx).2).length : Int) := b
              have g := gC r.toNat _ (getO 0 a b)
              rw [Int.toNat_of_nonneg a] at g
              rw [q1 129 r (by decide), l3 r a (by omega), gf 143 _ (by omega)]
              exact g
            · rw [up_ne2 _ (by decide), up_ne2 _ (by decide), up_ne2 _ (by decide), up_at]; rfl
            · have b : q < ((dM (o_read tx).2).length : Int) := b
              have g := gA q.toNat _ (getO 0 a b)
              rw [Int.toNat_of_nonneg a] at g
              obtain ⟨m1, m2⟩ := l1 q a (by omega)
              rw [q1 133 q (by decide), q1 134 q (by decide), f3 133 q (by decide), f3 134 q (by decide), f2 133 q (by omega), f2 134 q (by omega), m1, m2, gf 141 _ (by omega)]
              exact ⟨g, rfl⟩
            · have b : t < ((dT (o_read tx).2).length : Int) := b
              have g := gB t.toNat _ (getO (0, (0, (0, 0))) a b)
              rw [Int.toNat_of_nonneg a] at g
              obtain ⟨m1, m2, m3, m4, m5⟩ := l2 t a (by omega)
              rw [q1 135 t (by decide), q1 136 t (by decide), f3 135 t (by decide), f3 136 t (by decide), m3, m5, gf 142 _ (by omega)]
              exact ⟨g.2.2.1, rfl⟩
            · rw [up_ne2 _ (by decide), up_at]; rfl
            · rw [up_at]; rfl
            · rw [up_ne2 _ (by decide), up_ne2 _ (by decide), up_at]; rfl
            · have hT1 := hq1.2.2.1.tx hT
              refine hT1.fx (fun k i a => ?_)
              by_cases hk : k = 128
              · subst hk; rw [up_ne2 _ (by omega), up_ne2 _ (by omega), up_ne2 _ (by omega), up_ne2 _ (by omega), fr 128 i (by omega)]; exact gf 128 i (by omega)
              · rw [q1 k i hk, fr k i (by omega)]; exact gf k i (by omega)
            · refine Fm.of (fun k i a => ?_)
              rw [q1 k i (by omega), fr k i (by omega), gf k i (by omega)]
              exact congrFun (hq1.2.1 k a) i
          · skip
            refine V_aload_n (pc := 156) C (dk k_Z_lay 94 rfl) rfl ?_
            refine V_getr (pc := 157) (o2 := 129) C (dk k_Z_lay 95 rfl) fl_Z_9 kq_128 (by decide) rfl (by decide) rfl ?_
            refine V_iload_n (pc := 160) C (dk k_Z_lay 96 rfl) rfl ?_
            refine V_aload_n (pc := 161) C (dk k_Z_lay 97 rfl) rfl ?_
            refine V_getr (pc := 162) (o2 := 143) C (dk k_Z_lay 98 rfl) fl_Z_52 kq_128 (by decide) rfl (by decide) rfl ?_
            refine V_iload_n (pc := 165) C (dk k_Z_lay 99 rfl) rfl ?_
            refine V_iald (pc := 166) C (dk k_Z_lay 100 rfl) kq_143 (by decide) (by omega) (by omega) ?_
            refine V_iast (pc := 167) C (dk k_Z_lay 101 rfl) kq_129 (by decide) (by omega) (by omega) (hR _ _) ?_
            refine V_R (fun hR => ?_)
            refine V_iinc (pc := 168) C (dk k_Z_lay 102 rfl) (by rw [hXN]; decide) rfl ?_
            dsimp only [lst, lstL, lz, kill, Fin.val, Nat.reduceAdd]
            refine V_goto (pc := 171) C (dk k_Z_lay 103 rfl) 150 rfl ?_
            refine ih3 (r + 1, up ρ3 129 (r : Int) (ρ3 143 (r : Int))) ⟨by dsimp only; omega, fun u a b => ?_, fun k i a => ?_⟩ (by dsimp only; omega)
            · dsimp only at b ⊢
              by_cases hu : u = r
              · subst hu; rw [up_at, f3 143 _ (by decide), f2 143 _ (by omega)]; exact f1 143 _ (by decide) (by decide)
              · rw [up_ne2 _ hu]; exact l3 u a (by omega)
            · dsimp only; rw [up_ne1 _ _ _ _ a]; exact f3 k i a
        · skip
          refine V_aload_n (pc := 99) C (dk k_Z_lay 54 rfl) rfl ?_
          refine V_iload_n (pc := 100) C (dk k_Z_lay 55 rfl) rfl ?_
          refine V_aload_n (pc := 101) C (dk k_Z_lay 56 rfl) rfl ?_
          refine V_getr (pc := 102) (o2 := 142) C (dk k_Z_lay 57 rfl) fl_Z_49 kq_128 (by decide) rfl (by decide) rfl ?_
          refine V_iconst (pc := 105) C (dk k_Z_lay 58 rfl) rfl ?_
          refine V_iload_n (pc := 106) C (dk k_Z_lay 59 rfl) rfl ?_
          refine V_imul (pc := 107) C (dk k_Z_lay 60 rfl) ?_
          refine V_iald (pc := 108) C (dk k_Z_lay 61 rfl) kq_142 (by decide) (by omega) (by omega) ?_
          refine V_aload_n (pc := 109) C (dk k_Z_lay 62 rfl) rfl ?_
          refine V_getr (pc := 110) (o2 := 142) C (dk k_Z_lay 63 rfl) fl_Z_49 kq_128 (by decide) rfl (by decide) rfl ?_
          refine V_iconst (pc := 113) C (dk k_Z_lay 64 rfl) rfl ?_
          refine V_iload_n (pc := 114) C (dk k_Z_lay 65 rfl) rfl ?_
          refine V_imul (pc := 115) C (dk k_Z_lay 66 rfl) ?_
          refine V_iconst (pc := 116) C (dk k_Z_lay 67 rfl) rfl ?_
          refine V_iadd (pc := 117) C (dk k_Z_lay 68 rfl) ?_
          refine V_iald (pc := 118) C (dk k_Z_lay 69 rfl) kq_142 (by decide) (by omega) (by omega) ?_
          refine V_aload_n (pc := 119) C (dk k_Z_lay 70 rfl) rfl ?_
          refine V_getr (pc := 120) (o2 := 142) C (dk k_Z_lay 71 rfl) fl_Z_49 kq_128 (by decide) rfl (by decide) rfl ?_
          refine V_iconst (pc := 123) C (dk k_Z_lay 72 rfl) rfl ?_
          refine V_iload_n (pc := 124) C (dk k_Z_lay 73 rfl) rfl ?_
          refine V_imul (pc := 125) C (dk k_Z_lay 74 rfl) ?_
          refine V_iconst (pc := 126) C (dk k_Z_lay 75 rfl) rfl ?_
          refine V_iadd (pc := 127) C (dk k_Z_lay 76 rfl) ?_
          refine V_iald (pc := 128) C (dk k_Z_lay 77 rfl) kq_142 (by decide) (by omega) (by omega) ?_
          refine V_aload_n (pc := 129) C (dk k_Z_lay 78 rfl) rfl ?_
          refine V_getr (pc := 130) (o2 := 142) C (dk k_Z_lay 79 rfl) fl_Z_49 kq_128 (by decide) rfl (by decide) rfl ?_
          refine V_iconst (pc := 133) C (dk k_Z_lay 80 rfl) rfl ?_
          refine V_iload_n (pc := 134) C (dk k_Z_lay 81 rfl) rfl ?_
          refine V_imul (pc := 135) C (dk k_Z_lay 82 rfl) ?_
          refine V_iconst (pc := 136) C (dk k_Z_lay 83 rfl) rfl ?_
          refine V_iadd (pc := 137) C (dk k_Z_lay 84 rfl) ?_
          refine V_iald (pc := 138) C (dk k_Z_lay 85 rfl) kq_142 (by decide) (by omega) (by omega) ?_
          refine V_callV0 (pc := 139) C (dk k_Z_lay 86 rfl) lk_Z_77 cm_Z_sets vm_Z_sets (c_Z_sets _ _ _ t (ρ2 142 (4 * (t : Int))) (ρ2 142 (4 * (t : Int) + 1)) (ρ2 142 (4 * (t : Int) + 2)) (ρ2 142 (4 * (t : Int) + 3)) (by omega) (by omega) (hR _ _) (hR _ _) (hR _ _) (hR _ _)) kq_128 rfl rfl rfl (Nat.le_of_ble_eq_true rfl) (Rm.mono hRm (by decide) (by decide)) ?_
          refine V_R (fun hR => ?_)
          refine V_iinc (pc := 142) C (dk k_Z_lay 87 rfl) (by rw [hXN]; decide) rfl ?_
          dsimp only [lst, lstL, lz, kill, Fin.val, Nat.reduceAdd]
          refine V_goto (pc := 145) C (dk k_Z_lay 88 rfl) 93 rfl ?_
          refine ih2 (t + 1, up (up (up (up (up ρ2 130 (t : Int) (ρ2 142 (4 * (t : Int)))) 131 (t : Int) (ρ2 142 (4 * (t : Int) + 1))) 135 (t : Int) (ρ2 142 (4 * (t : Int) + 2))) 132 (t : Int) (ρ2 142 (4 * (t : Int) + 3))) 136 (t : Int) 0) ⟨by dsimp only; omega, fun u a b => ?_, fun k i a => ?_⟩ (by dsimp only; omega)
          · dsimp only at b ⊢
            have r142 : ∀ i : Int, ρ2 142 i = τ2 142 i := fun i => (f2 142 i (by omega)).trans (f1 142 i (by omega) (by omega))
            by_cases hu : u = t
            · subst hu; simp (disch := omega) only [up_ne1, up_at, r142]; exact ⟨trivial, trivial, trivial, trivial, trivial⟩
            · simp (disch := omega) only [up_ne1, up_ne2]; exact l2 u a (by omega)
          · dsimp only; simp (disch := omega) only [up_ne1]; exact f2 k i a
      · skip
        refine V_aload_n (pc := 66) C (dk k_Z_lay 34 rfl) rfl ?_
        refine V_getr (pc := 67) (o2 := 133) C (dk k_Z_lay 35 rfl) fl_Z_22 kq_128 (by decide) rfl (by decide) rfl ?_
        refine V_iload_n (pc := 70) C (dk k_Z_lay 36 rfl) rfl ?_
        refine V_aload_n (pc := 71) C (dk k_Z_lay 37 rfl) rfl ?_
        refine V_getr (pc := 72) (o2 := 141) C (dk k_Z_lay 38 rfl) fl_Z_46 kq_128 (by decide) rfl (by decide) rfl ?_
        refine V_iload_n (pc := 75) C (dk k_Z_lay 39 rfl) rfl ?_
        refine V_iald (pc := 76) C (dk k_Z_lay 40 rfl) kq_141 (by decide) (by omega) (by omega) ?_
        refine V_iast (pc := 77) C (dk k_Z_lay 41 rfl) kq_133 (by decide) (by omega) (by omega) (hR _ _) ?_
        refine V_R (fun hR => ?_)
        refine V_aload_n (pc := 78) C (dk k_Z_lay 42 rfl) rfl ?_
        refine V_getr (pc := 79) (o2 := 134) C (dk k_Z_lay 43 rfl) fl_Z_25 kq_128 (by decide) rfl (by decide) rfl ?_
        refine V_iload_n (pc := 82) C (dk k_Z_lay 44 rfl) rfl ?_
        refine V_iconst (pc := 83) C (dk k_Z_lay 45 rfl) rfl ?_
        refine V_iast (pc := 84) C (dk k_Z_lay 46 rfl) kq_134 (by decide) (by omega) (by omega) R0 ?_
        refine V_R (fun hR => ?_)
        refine V_iinc (pc := 85) C (dk k_Z_lay 47 rfl) (by rw [hXN]; decide) rfl ?_
        dsimp only [lst, lstL, lz, kill, Fin.val, Nat.reduceAdd]
        refine V_goto (pc := 88) C (dk k_Z_lay 48 rfl) 61 rfl ?_
        refine ih1 (p + 1, up (up ρ1 133 (p : Int) (ρ1 141 (p : Int))) 134 (p : Int) 0) ⟨by dsimp only; omega, fun u a b => ?_, fun k i a b => ?_⟩ (by dsimp only; omega)
        · dsimp only at b ⊢
          by_cases hu : u = p
          · subst hu; rw [up_at, up_ne1 _ _ _ _ (by decide), up_at, f1 141 _ (by decide) (by decide)]; exact ⟨rfl, rfl⟩
          · rw [up_ne1 _ _ _ _ (by decide), up_ne2 _ hu, up_ne2 _ hu, up_ne1 _ _ _ _ (by decide)]; exact l1 u a (by omega)
        · dsimp only; rw [up_ne1 _ _ _ _ b, up_ne1 _ _ _ _ a]; exact f1 k i a b
    · skip
      exfalso; omega

set_option maxHeartbeats 1000000 in
set_option maxRecDepth 20000 in
theorem c_Z_lay0 (l : Launch) (G : GE) (σ : Wd) (π : PL) (x : ST) (us ks : List ST) (lk : List (Int × (Int × Int))) (tx : List Int) (j : Int) (hC : MR σ π x us ks lk tx) (hV : VK π x us ks j) (hj : j ≤ 100) (hno : ¬ ((o_read tx).1 = -4 ∧ dM (o_read tx).2 ≠ [])) : Ct l G y_Z_lay b_Z_lay 2 (some (.int)) 6 129 [vR 128] σ (Rt (some (vI (-2))) (fun σ' => MR σ' π x us ks lk tx ∧ Fm σ σ')) := by
  refine Ct.of cm_Z_lay (Nat.le_of_ble_eq_true rfl) ?_
  intro X hXl hXG hXN hRm C E
  subst hXl; subst hXG
  show V X 0 [some (vR 128), none] [] σ
  refine V_R (fun hR => ?_)
  obtain ⟨hπ, hx, hU, hK, hl, hT⟩ := id hC
  obtain ⟨ok, xk, usk, ksk, ks2⟩ := id hV
  have hπ0 := hπ
  obtain ⟨e0, e1, e2, e3, eT, eX⟩ := hπ
  have ⟨k1, k2, k3, k4, k5, k6, kT, kX⟩ := ok
  have hx0 := hx
  obtain ⟨f0, f1, fQ, fT⟩ := hx
  have ⟨x1, x2, x3, x4, xQ, xT⟩ := xk
  obtain ⟨t1, t2, t3⟩ := id hT
  have hrr : inR (o_read tx).1 := o_read_R tx t2
  refine V_aload_n (pc := 0) C (dk k_Z_lay 0 rfl) rfl ?_
  refine V_callVr (pc := 1) C (dk k_Z_lay 1 rfl) lk_Z_147 cm_Z_fault vm_Z_fault (c_Z_fault _ _ _ π x us ks lk tx j hC hV hj) kq_128 rfl rfl rfl (Nat.le_of_ble_eq_true rfl) (Rm.mono hRm (by decide) (by decide)) (fun τ1 hq1 => ?_)
  refine V_R (fun hR => ?_)
  refine V_bipush (pc := 4) (n' := (-4)) C (dk k_Z_lay 2 rfl) rfl ?_
  refine V_icmpne (pc := 6) C (dk k_Z_lay 3 rfl) 16 rfl hrr ⟨by decide, by decide⟩ (fun h1 => ?_) (fun h1 => ?_)
  · skip
    refine V_bipush (pc := 16) (n' := (-2)) C (dk k_Z_lay 7 rfl) rfl ?_
    refine V_iret (pc := 18) C E (dk k_Z_lay 8 rfl) ?_
    exact ⟨rfl, hq1.1, hq1.2.1⟩
  · skip
    have hD := hq1.2.2.2 (by assumption)
    have hD0 := hD.1.1
    refine V_aload_n (pc := 9) C (dk k_Z_lay 4 rfl) rfl ?_
    refine V_geti (pc := 10) (ji := 21) C (dk k_Z_lay 5 rfl) fl_Z_114 kq_128 (by decide) rfl rfl ?_
    refine V_ifne (pc := 13) C (dk k_Z_lay 6 rfl) 19 rfl (by first | exact hR _ _ | with_reducible assumption | exact ⟨by omega, by omega⟩) (fun h2 => ?_) (fun h2 => ?_)
    · skip
      exfalso
      apply hno
      refine ⟨by assumption, fun hz => ?_⟩
      rw [hz] at hD0
      have hD0 : τ1 128 21 = 0 := hD0
      omega
    · skip
      refine V_bipush (pc := 16) (n' := (-2)) C (dk k_Z_lay 7 rfl) rfl ?_
      refine V_iret (pc := 18) C E (dk k_Z_lay 8 rfl) ?_
      exact ⟨rfl, hq1.1, hq1.2.1⟩
