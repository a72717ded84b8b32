theorem drop_sp {l : List Nat} (h : l.Pairwise (· < ·)) {i u t : Nat} {ts : List Nat} (hu : u ∈ l) (hn : u ∉ l.drop i) (hd : l.drop i = t :: ts) : u < t := by
  rw [← List.take_append_drop i l] at h hu
  rcases List.mem_append.mp hu with a | a
  · exact (List.pairwise_append.mp h).2.2 u a t (by rw [hd]; exact List.mem_cons_self)
  · exact absurd a hn
theorem drop_no {l : List Nat} (h : l.Pairwise (· < ·)) {i u t : Nat} {ts : List Nat} (hd : l.drop i = t :: ts) (hu : u < t) : u ∉ l.drop i := by
  rw [hd]
  intro hm
  rcases List.mem_cons.mp hm with a | a
  · omega
  · have := drop_lt h hd u a; omega
theorem swK_0 {π : PL} {q : Nat → Nat} {ms sl : List Nat} (h : SwK π q ms sl) : swK π ms sl 0 = swL π ms q := by
  have hz : ∀ n k : Nat, swb n k 0 = 0 := by
    intro n
    induction n with
    | zero => intro k; rfl
    | succ n ih => intro k; rw [swb, ih, Nat.zero_testBit]; simp
  unfold swK
  rw [hz, List.drop_zero]
  exact swL_cg π ms _ _ h.2.2.2.2
theorem swb_0 : ∀ n k : Nat, swb n k 0 = 0
  | 0, _ => rfl
  | n + 1, k => by rw [swb, swb_0 n, Nat.zero_testBit]; simp
/-- the first slot by which it comes to the least is of the first person by whom it does -/
theorem swf_k {π : PL} {q : Nat → Nat} {ms sl : List Nat} (h : SwK π q ms sl) {b t k : Nat} {ts : List Nat} {v : Int} (hk : k < sl.length) (hb : b.testBit k = false) (h5 : sl.getD k 0 < 5) (hr : swr sl 0 b (sl.getD k 0) ≠ 0) (hv : swC π t ts (swr sl 0 b) (sl.getD k 0) = v) (hf : ∀ j, j < k → b.testBit j = false → swC π t ts (swr sl 0 b) (sl.getD j 0) ≠ v) : swf (swC π t ts (swr sl 0 b)) (swr sl 0 b) v 5 0 = sl.getD k 0 :=
  swf_u h5 hr hv (fun p hp z => by
    obtain ⟨z1, z2⟩ := z
    obtain ⟨i, i1, i2⟩ := (swr_pos sl 0 p).mp z1
    rw [Nat.zero_add] at i2
    rcases Nat.lt_or_ge i k with a | a
    · exact hf i a i2 (by rw [slD i1]; exact z2)
    · have := swS_le h.2.2.2.1 (slG hk) i1 a
      omega)

def i_Z_swap : List (Nat × (Instr × Nat)) := [(0, (.iload_n 1, 1)), (1, (.iconst (-1), 1)), (2, (.aload_n 0, 1)), (3, (.getfield 81, 3)), (6, (.iconst 1, 1)), (7, (.isub, 1)), (8, (.invokestatic 93, 3)), (11, (.ifCond .ne 5, 3)), (14, (.iconst (-1), 1)), (15, (.ireturn, 1)), (16, (.aload_n 0, 1)), (17, (.invokevirtual 243, 3)), (20, (.iload_n 1, 1)), (21, (.ifCond .lt 12, 3)), (24, (.aload_n 0, 1)), (25, (.getfield 31, 3)), (28, (.iload_n 1, 1)), (29, (.iaload, 1)), (30, (.ifCond .eq 19, 3)), (33, (.iload_n 1, 1)), (34, (.ifCond .ge 12, 3)), (37, (.aload_n 0, 1)), (38, (.getfield 67, 3)), (41, (.iconst 0, 1)), (42, (.iaload, 1)), (43, (.goto 5, 3)), (46, (.bipush (-4), 2)), (48, (.ireturn, 1)), (49, (.iconst 0, 1)), (50, (.istore_n 2, 1)), (51, (.bipush (-4), 2)), (53, (.istore_n 3, 1)), (54, (.iconst 0, 1)), (55, (.istore 4, 2)), (57, (.iload 4, 2)), (59, (.aload_n 0, 1)), (60, (.getfield 233, 3)), (63, (.if_icmp .ge 92, 3)), (66, (.aload_n 0, 1)), (67, (.getfield 64, 3)), (70, (.iload 4, 2)), (72, (.iaload, 1)), (73, (.iload_n 1, 1)), (74, (.if_icmp .gt 81, 3)), (77, (.iconst 0, 1)), (78, (.istore 5, 2)), (80, (.iload_n 2, 1)), (81, (.iload 5, 2)), (83, (.invokestatic 221, 3)), (86, (.ifCond .ne 42, 3)), (89, (.aload_n 0, 1)), (90, (.aload_n 0, 1)), (91, (.getfield 64, 3)), (94, (.iload 4, 2)), (96, (.iaload, 1)), (97, (.aload_n 0, 1)), (98, (.getfield 61, 3)), (101, (.iload 5, 2)), (103, (.iaload, 1)), (104, (.invokevirtual 239, 3)), (107, (.aload_n 0, 1)), (108, (.getfield 67, 3)), (111, (.iload_n 2, 1)), (112, (.iconst 1, 1)), (113, (.iload 5, 2)), (115, (.ishl, 1)), (116, (.ior, 1)), (117, (.iaload, 1)), (118, (.iadd, 1)), (119, (.aload_n 0, 1)), (120, (.getfield 67, 3)), (123, (.iload_n 2, 1)), (124, (.iaload, 1)), (125, (.if_icmp .eq 9, 3)), (128, (.iinc 5 1, 3)), (131, (.goto (-51), 3)), (134, (.iload_n 2, 1)), (135, (.iconst 1, 1)), (136, (.iload 5, 2)), (138, (.ishl, 1)), (139, (.ior, 1)), (140, (.istore_n 2, 1)), (141, (.aload_n 0, 1)), (142, (.getfield 61, 3)), (145, (.iload 5, 2)), (147, (.iaload, 1)), (148, (.istore_n 3, 1)), (149, (.iinc 4 1, 3)), (152, (.goto (-95), 3)), (155, (.iload_n 3, 1)), (156, (.ireturn, 1))]
theorem k_Z_swap : i_Z_swap.all (fun q => decide (decode b_Z_swap q.1 = .ok q.2)) = true := by decide +kernel

set_option maxHeartbeats 2000000 in
set_option maxRecDepth 20000 in
theorem c_Z_swap (l : Launch) (G : GE) (σ : Wd) (π : PL) (x : ST) (us ks : List ST) (lk : List (Int × (Int × Int))) (tx : List Int) (j : Int) (hC : MR σ π x us ks lk tx) (hV : VK π x us ks j) (hj : j ≤ 100) (t : Int) (ht : inR t) : Ct l G y_Z_swap b_Z_swap 6 (some (.int)) 2 49 [vR 128, vI t] σ (Rt (some (vI (o_swap π x t))) (fun σ' => MR σ' π x us ks lk tx ∧ Fm σ σ')) := by
  refine Ct.of cm_Z_swap (Nat.le_of_ble_eq_true rfl) ?_
  intro X hXl hXG hXN hRm C E
  subst hXl; subst hXG
  have ⟨ht_1, ht_2⟩ := ht
  show V X 0 [some (vR 128), some (vI t), none, none, none, none] [] σ
  refine V_R (fun hR => ?_)
  obtain ⟨hπ, hx, hU, hK, hl, hT⟩ := id hC
  obtain ⟨ok, xk, usk, ksk, ks2⟩ := id hV
  have hπ0 := hπ
  obtain ⟨e0, e1, e2, e3, eT, eX⟩ := hπ
  have ⟨k1, k2, k3, k4, k5, k6, kT, kX⟩ := ok
  have hx0 := hx
  obtain ⟨f0, f1, fQ, fT⟩ := hx
  have ⟨x1, x2, x3, x4, xQ, xT⟩ := xk
  obtain ⟨q, hq⟩ : ∃ q, q = qO π x := ⟨_, rfl⟩
  obtain ⟨ms, hms⟩ : ∃ ms, ms = msO π x := ⟨_, rfl⟩
  obtain ⟨sl, hsl⟩ : ∃ sl, sl = swS q (pP π) := ⟨_, rfl⟩
  have hSK : SwK π q ms sl := by rw [hsl, hq, hms]; exact SwK.of ok x
  obtain ⟨K1, K2, K3, K4, K5, K6, K7⟩ := id hSK.1
  have hsl5 := hSK.2.2.1
  have hsll := hSK.2.1
  have ⟨p0, p1⟩ := p2N K2
  have hKb := swK_b hSK
  refine V_iload_n (pc := 0) C (dk k_Z_swap 0 rfl) rfl ?_
  refine V_iconst (pc := 1) C (dk k_Z_swap 1 rfl) rfl ?_
  refine V_aload_n (pc := 2) C (dk k_Z_swap 2 rfl) rfl ?_
  refine V_geti (pc := 3) (ji := 1) C (dk k_Z_swap 3 rfl) fl_Z_81 kq_128 (by decide) rfl rfl ?_
  rw [e1]
  refine V_iconst (pc := 6) C (dk k_Z_swap 4 rfl) rfl ?_
  refine V_isub (pc := 7) C (dk k_Z_swap 5 rfl) ?_
  refine V_callS (pc := 8) C (dk k_Z_swap 6 rfl) lk_Z_93 cm_Z_in sm_Z_in (c_Z_in _ _ _ t (-1) (pN π - 1) ht ⟨by decide, by decide⟩ ⟨by omega, by omega⟩) rfl rfl (Nat.le_of_ble_eq_true rfl) (Rm.mono hRm (by decide) (by decide)) ?_
  refine V_ifneB (pc := 11) C (dk k_Z_swap 7 rfl) 16 rfl (fun h1 => ?_) (fun h1 => ?_)
  · skip
    refine V_aload_n (pc := 16) C (dk k_Z_swap 10 rfl) rfl ?_
    refine V_callV0r (pc := 17) C (dk k_Z_swap 11 rfl) lk_Z_243 cm_Z_setCosts vm_Z_setCosts (c_Z_setCosts _ _ _ π x j hπ0 ok hx0 xk (by omega) q ms sl hq hms hsl) kq_128 rfl rfl rfl (Nat.le_of_ble_eq_true rfl) (Rm.mono hRm (by decide) (by decide)) (fun τ1 hq1 => ?_)
    refine V_R (fun hR => ?_)
    obtain ⟨qS, qI, qK, qF⟩ := hq1
    have hFX := qF.x
    have hxF : StM τ1 π x := hx0.fx (fun k i a => qF k i (by omega) (by omega))
    refine V_iload_n (pc := 20) C (dk k_Z_swap 12 rfl) rfl ?_
    refine V_iflt (pc := 21) C (dk k_Z_swap 13 rfl) 33 rfl (by first | exact hR _ _ | with_reducible assumption | exact ⟨by omega, by omega⟩) (fun h2 => ?_) (fun h2 => ?_)
    · skip
      refine V_iload_n (pc := 33) C (dk k_Z_swap 19 rfl) rfl ?_
      refine V_ifge (pc := 34) C (dk k_Z_swap 20 rfl) 46 rfl (by first | exact hR _ _ | with_reducible assumption | exact ⟨by omega, by omega⟩) (fun h3 => ?_) (fun h3 => ?_)
      · skip
        refine V_bipush (pc := 46) (n' := (-4)) C (dk k_Z_swap 26 rfl) rfl ?_
        refine V_iret (pc := 48) C E (dk k_Z_swap 27 rfl) ?_
        first | (exfalso; omega) | (rw [show o_swap π x t = swL π ms q by rw [hq, hms]; exact if_pos (by omega)]; exact ⟨congrArg (fun z => some (vI z)) ((qK 0 (by omega)).trans (swK_0 hSK)), MR.st ok hC hFX hxF, hFX.m⟩) | (rw [show o_swap π x t = -4 by unfold o_swap; rw [if_neg (by omega), if_pos (by omega)]; exact swa_no _ _ _ (fun v hv e => by have := ((swM_mem x (pN π) v).mp hv).2; rw [← e] at this; omega)]; exact ⟨rfl, MR.st ok hC hFX hxF, hFX.m⟩)
      · skip
        refine V_aload_n (pc := 37) C (dk k_Z_swap 21 rfl) rfl ?_
        refine V_getr (pc := 38) (o2 := 148) C (dk k_Z_swap 22 rfl) fl_Z_67 kq_128 (by decide) rfl (by decide) rfl ?_
        refine V_iconst (pc := 41) C (dk k_Z_swap 23 rfl) rfl ?_
        refine V_iald (pc := 42) C (dk k_Z_swap 24 rfl) kq_148 (by decide) (by decide) (by decide) ?_
        refine V_goto (pc := 43) C (dk k_Z_swap 25 rfl) 48 rfl ?_
        refine V_iret (pc := 48) C E (dk k_Z_swap 27 rfl) ?_
        first | (exfalso; omega) | (rw [show o_swap π x t = swL π ms q by rw [hq, hms]; exact if_pos (by omega)]; exact ⟨congrArg (fun z => some (vI z)) ((qK 0 (by omega)).trans (swK_0 hSK)), MR.st ok hC hFX hxF, hFX.m⟩) | (rw [show o_swap π x t = -4 by unfold o_swap; rw [if_neg (by omega), if_pos (by omega)]; exact swa_no _ _ _ (fun v hv e => by have := ((swM_mem x (pN π) v).mp hv).2; rw [← e] at this; omega)]; exact ⟨rfl, MR.st ok hC hFX hxF, hFX.m⟩)
    · skip
      refine V_aload_n (pc := 24) C (dk k_Z_swap 14 rfl) rfl ?_
      refine V_getr (pc := 25) (o2 := 136) C (dk k_Z_swap 15 rfl) fl_Z_31 kq_128 (by decide) rfl (by decide) rfl ?_
      refine V_iload_n (pc := 28) C (dk k_Z_swap 16 rfl) rfl ?_
      refine V_iald (pc := 29) C (dk k_Z_swap 17 rfl) kq_136 (by decide) (by omega) (by omega) ?_
      obtain ⟨xN0, xN1, xP0, xP1, xPN⟩ := xT t (by omega) (by omega)
      rw [qF 136 t (by omega) (by omega), (fT t (by omega) (by omega)).2]
      refine V_ifeq (pc := 30) C (dk k_Z_swap 18 rfl) 49 rfl (by first | exact hR _ _ | with_reducible assumption | exact ⟨by omega, by omega⟩) (fun h4 => ?_) (fun h4 => ?_)
      · skip
        obtain ⟨u, rfl⟩ : ∃ u : Nat, t = u := ⟨t.toNat, by omega⟩
        have hum : u ∈ ms := by rw [hms]; exact (swM_mem x (pN π) u).mpr ⟨by omega, by omega⟩
        refine V_iconst (pc := 49) C (dk k_Z_swap 28 rfl) rfl ?_
        refine V_istore_n (pc := 50) C (dk k_Z_swap 29 rfl) (by rw [hXN]; decide) ?_
        dsimp only [lst, lstL, lz, kill, Fin.val, Nat.reduceAdd]
        refine V_bipush (pc := 51) (n' := (-4)) C (dk k_Z_swap 30 rfl) rfl ?_
        refine V_istore_n (pc := 53) C (dk k_Z_swap 31 rfl) (by rw [hXN]; decide) ?_
        dsimp only [lst, lstL, lz, kill, Fin.val, Nat.reduceAdd]
        refine V_iconst (pc := 54) C (dk k_Z_swap 32 rfl) rfl ?_
        refine V_istore (pc := 55) C (dk k_Z_swap 33 rfl) (by rw [hXN]; decide) ?_
        dsimp only [lst, lstL, lz, kill, Fin.val, Nat.reduceAdd]
        refine V_eq (V_loop (fun z : Nat × (Nat × Int) => z.1 ≤ ms.length ∧ z.2.1 < 2 ^ ms.length ∧ swb ms.length 0 z.2.1 = z.1 ∧ (u ∈ ms.drop z.1 → swa ms (swg π ms q) (u : Int) = swa (ms.drop z.1) (swg π (ms.drop z.1) (swr sl 0 z.2.1)) (u : Int)) ∧ (u ∉ ms.drop z.1 → z.2.2 = swa ms (swg π ms q) (u : Int))) (fun z => [some (vR 128), some (vI (u : Int)), some (vI (z.2.1 : Int)), some (vI z.2.2), some (vI (z.1 : Int)), none]) (fun _ => τ1) (fun z => ms.length - z.1) (fun z hz ih => ?_) (0, (0, -4)) ⟨Nat.zero_le _, by dsimp only; omega, swb_0 _ _, fun _ => by dsimp only; rw [List.drop_zero, swg_cg π ms _ _ hSK.2.2.2.2], fun hn => absurd (by dsimp only; rw [List.drop_zero]; exact hum) hn⟩) rfl rfl rfl
        obtain ⟨i, b, last⟩ := z
        obtain ⟨hi, hb2, hbi, hJ1, hJ2⟩ := hz
        dsimp only at hi hb2 hbi hJ1 hJ2 ih ⊢
        refine V_iload (pc := 57) C (dk k_Z_swap 34 rfl) rfl ?_
        refine V_aload_n (pc := 59) C (dk k_Z_swap 35 rfl) rfl ?_
        refine V_geti (pc := 60) (ji := 33) C (dk k_Z_swap 36 rfl) fl_Z_233 kq_128 (by decide) rfl rfl ?_
        rw [qS.1, hsll]
        refine V_icmpge (pc := 63) C (dk k_Z_swap 37 rfl) 155 rfl (by first | exact hR _ _ | with_reducible assumption | exact ⟨by omega, by omega⟩) (by first | exact hR _ _ | with_reducible assumption | exact ⟨by omega, by omega⟩) (fun h5 => ?_) (fun h5 => ?_)
        · skip
          refine V_iload_n (pc := 155) C (dk k_Z_swap 89 rfl) rfl ?_
          refine V_iret (pc := 156) C E (dk k_Z_swap 90 rfl) ?_
          have hno : u ∉ ms.drop i := by first | (rw [List.drop_eq_nil_of_le (by omega)]; exact List.not_mem_nil) | exact drop_no K6 hda0 (by omega)
          rw [show o_swap π x (u : Int) = swa ms (swg π ms q) (u : Int) by rw [hq, hms]; unfold o_swap; rw [if_neg (by omega), if_pos (by omega)]]
          exact ⟨by rw [hJ2 hno], MR.st ok hC hFX hxF, hFX.m⟩
        · skip
          obtain ⟨t0, ts, hda0⟩ := drop_ex (l := ms) (n := i) (by omega)
          have hda := drop_at hda0
          have htm : t0 ∈ ms := drop_mem (by rw [hda0]; exact List.mem_cons_self)
          have htn := K5 t0 htm
          refine V_aload_n (pc := 66) C (dk k_Z_swap 38 rfl) rfl ?_
          refine V_getr (pc := 67) (o2 := 147) C (dk k_Z_swap 39 rfl) fl_Z_64 kq_128 (by decide) rfl (by decide) rfl ?_
          refine V_iload (pc := 70) C (dk k_Z_swap 40 rfl) rfl ?_
          refine V_iald (pc := 72) C (dk k_Z_swap 41 rfl) kq_147 (by decide) (by omega) (by omega) ?_
          rw [qI i t0 hda.1]
          refine V_iload_n (pc := 73) C (dk k_Z_swap 42 rfl) rfl ?_
          refine V_icmpgt (pc := 74) C (dk k_Z_swap 43 rfl) 155 rfl (by first | exact hR _ _ | with_reducible assumption | exact ⟨by omega, by omega⟩) (by first | exact hR _ _ | with_reducible assumption | exact ⟨by omega, by omega⟩) (fun h6 => ?_) (fun h6 => ?_)
          · skip
            refine V_iload_n (pc := 155) C (dk k_Z_swap 89 rfl) rfl ?_
            refine V_iret (pc := 156) C E (dk k_Z_swap 90 rfl) ?_
            have hno : u ∉ ms.drop i := by first | (rw [List.drop_eq_nil_of_le (by omega)]; exact List.not_mem_nil) | exact drop_no K6 hda0 (by omega)
            rw [show o_swap π x (u : Int) = swa ms (swg π ms q) (u : Int) by rw [hq, hms]; unfold o_swap; rw [if_neg (by omega), if_pos (by omega)]]
            exact ⟨by rw [hJ2 hno], MR.st ok hC hFX hxF, hFX.m⟩
          · skip
            have hin : u ∈ ms.drop i := Classical.byContradiction (fun hn => by have := drop_sp K6 hum hn hda0; omega)
            have hbne : b < 2 ^ ms.length - 1 := by (by_cases e : b = 2 ^ ms.length - 1; (exfalso; rw [e, swb_all ms.length 0 (fun j a c => by rw [Nat.testBit_two_pow_sub_one]; exact decide_eq_true (by omega))] at hbi; omega); omega)
            have hd : ms.drop (swb ms.length 0 b) = t0 :: ts := by rw [hbi]; exact hda0
            have hs5 := swK_s5 hSK b
            have hll := congrArg List.length hda0
            rw [List.length_drop, List.length_cons] at hll
            have hs : s5 (swr sl 0 b) = ts.length + 1 := by omega
            have hU : swU π (t0 :: ts) := fun v hv => K4 v (drop_mem (by rw [hda0]; exact hv))
            have hKe : swK π ms sl b = swL π (t0 :: ts) (swr sl 0 b) := by unfold swK; rw [hd]
            obtain ⟨pw, pw1, pw2, pw3⟩ := (swL_I hU hs).1
            obtain ⟨kk, kk1, kk2⟩ := (swr_pos sl 0 pw).mp pw2
            rw [Nat.zero_add] at kk2
            have kkl := (List.getElem?_eq_some_iff.mp kk1).1
            have hKb2 := hKb b
            refine V_iconst (pc := 77) C (dk k_Z_swap 44 rfl) rfl ?_
            refine V_istore (pc := 78) C (dk k_Z_swap 45 rfl) (by rw [hXN]; decide) ?_
            dsimp only [lst, lstL, lz, kill, Fin.val, Nat.reduceAdd]
            refine V_eq (V_loop (fun k : Nat => k ≤ kk ∧ ∀ j, j < k → b.testBit j = false → (swC π t0 ts (swr sl 0 b)) (sl.getD j 0) ≠ swL π (t0 :: ts) (swr sl 0 b)) (fun k => [some (vR 128), some (vI (u : Int)), some (vI (b : Int)), some (vI last), some (vI (i : Int)), some (vI (k : Int))]) (fun _ => τ1) (fun k => kk - k) (fun k hk0 ihk => ?_) 0 ⟨Nat.zero_le _, fun j a => by omega⟩) rfl rfl rfl
            obtain ⟨hkk, hfj⟩ := hk0
            have hsk := slG (show k < sl.length by omega)
            have hk5 := hsl5 _ (List.mem_of_getElem? hsk)
            have hk2 := p2lt (show k < ms.length by omega) K2
            have hk3 : (0 : Int) ≤ ((2 ^ k : Nat) : Int) := Int.natCast_nonneg (2 ^ k)
            refine V_iload_n (pc := 80) C (dk k_Z_swap 46 rfl) rfl ?_
            refine V_iload (pc := 81) C (dk k_Z_swap 47 rfl) rfl ?_
            refine V_callS (pc := 83) C (dk k_Z_swap 48 rfl) lk_Z_221 cm_Z_has sm_Z_has (c_Z_has _ _ _ b k (by omega) (by omega)) rfl rfl (Nat.le_of_ble_eq_true rfl) (Rm.mono hRm (by decide) (by decide)) ?_
            refine V_ifneB (pc := 86) C (dk k_Z_swap 49 rfl) 128 rfl (fun h7 => ?_) (fun h7 => ?_)
            · skip
              first | (have hneq : ¬ (swC π t0 ts (swr sl 0 b)) (sl.getD k 0) = swL π (t0 :: ts) (swr sl 0 b) := by assumption) | skip
              refine V_iinc (pc := 128) C (dk k_Z_swap 74 rfl) (by rw [hXN]; decide) rfl ?_
              dsimp only [lst, lstL, lz, kill, Fin.val, Nat.reduceAdd]
              refine V_goto (pc := 131) C (dk k_Z_swap 75 rfl) 80 rfl ?_
              have hkne : k ≠ kk := fun e => by first | (have hh : b.testBit k = true := (by assumption); rw [e, kk2] at hh; cases hh) | (subst e; rw [slD kk1] at hneq; exact hneq pw3)
              exact ihk (k + 1) ⟨by omega, fun j a d => by by_cases e : j = k; (subst e; first | (exfalso; rw [show b.testBit j = true by assumption] at d; cases d) | exact hneq); exact hfj j (by omega) d⟩ (by omega)
            · skip
              have hbf : b.testBit k = false := Bool.eq_false_iff.mpr (by assumption)
              obtain ⟨u1, u2, u3, u4⟩ := swC_b hSK hd hs hU (show k < sl.length by omega) hbf
              have hor := or_lt hb2 (show k < ms.length by omega)
              obtain ⟨v1, v2⟩ := swK_s hSK hsk hbf hd
              refine V_aload_n (pc := 89) C (dk k_Z_swap 50 rfl) rfl ?_
              refine V_aload_n (pc := 90) C (dk k_Z_swap 51 rfl) rfl ?_
              refine V_getr (pc := 91) (o2 := 147) C (dk k_Z_swap 52 rfl) fl_Z_64 kq_128 (by decide) rfl (by decide) rfl ?_
              refine V_iload (pc := 94) C (dk k_Z_swap 53 rfl) rfl ?_
              refine V_iald (pc := 96) C (dk k_Z_swap 54 rfl) kq_147 (by decide) (by omega) (by omega) ?_
              rw [qI i t0 hda.1]
              refine V_aload_n (pc := 97) C (dk k_Z_swap 55 rfl) rfl ?_
              refine V_getr (pc := 98) (o2 := 146) C (dk k_Z_swap 56 rfl) fl_Z_61 kq_128 (by decide) rfl (by decide) rfl ?_
              refine V_iload (pc := 101) C (dk k_Z_swap 57 rfl) rfl ?_
              refine V_iald (pc := 103) C (dk k_Z_swap 58 rfl) kq_146 (by decide) (by omega) (by omega) ?_
              rw [qS.2 k _ hsk]
              refine V_callV (pc := 104) C (dk k_Z_swap 59 rfl) lk_Z_239 cm_Z_costOf vm_Z_costOf (c_Z_costOf _ _ _ π t0 (sl.getD k 0) (hπ0.fx (fun k i a => qF k i (by omega) (by omega))) ok htn hk5) kq_128 rfl rfl rfl (Nat.le_of_ble_eq_true rfl) (Rm.mono hRm (by decide) (by decide)) ?_
              refine V_aload_n (pc := 107) C (dk k_Z_swap 60 rfl) rfl ?_
              refine V_getr (pc := 108) (o2 := 148) C (dk k_Z_swap 61 rfl) fl_Z_67 kq_128 (by decide) rfl (by decide) rfl ?_
              refine V_iload_n (pc := 111) C (dk k_Z_swap 62 rfl) rfl ?_
              refine V_iconst (pc := 112) C (dk k_Z_swap 63 rfl) rfl ?_
              refine V_iload (pc := 113) C (dk k_Z_swap 64 rfl) rfl ?_
              refine V_ishl (pc := 115) C (dk k_Z_swap 65 rfl) (by omega) (by omega) (by omega) (by rw [p2I]; omega) ?_
              refine V_ior (pc := 116) C (dk k_Z_swap 66 rfl) ⟨by omega, by omega⟩ ⟨by rw [p2I]; omega, by rw [p2I]; omega⟩ (by omega) (by rw [p2I]; omega) ?_
              rw [orI]
              refine V_iald (pc := 117) C (dk k_Z_swap 67 rfl) kq_148 (by decide) (by omega) (by omega) ?_
              rw [qK _ hor, v1]
              refine V_iadd (pc := 118) C (dk k_Z_swap 68 rfl) ?_
              change V X _ _ [vI ((swC π t0 ts (swr sl 0 b)) (sl.getD k 0))] _
              refine V_aload_n (pc := 119) C (dk k_Z_swap 69 rfl) rfl ?_
              refine V_getr (pc := 120) (o2 := 148) C (dk k_Z_swap 70 rfl) fl_Z_67 kq_128 (by decide) rfl (by decide) rfl ?_
              refine V_iload_n (pc := 123) C (dk k_Z_swap 71 rfl) rfl ?_
              refine V_iald (pc := 124) C (dk k_Z_swap 72 rfl) kq_148 (by decide) (by omega) (by omega) ?_
              rw [qK b hb2, hKe]
              have hKr : inR (swL π (t0 :: ts) (swr sl 0 b)) := by rw [← hKe]; exact ⟨by omega, by omega⟩
              refine V_icmpeq (pc := 125) C (dk k_Z_swap 73 rfl) 134 rfl (by first | exact hR _ _ | with_reducible assumption | exact ⟨by omega, by omega⟩) (by first | exact hR _ _ | with_reducible assumption | exact ⟨by omega, by omega⟩) (fun h8 => ?_) (fun h8 => ?_)
              · skip
                have hgv : swg π (t0 :: ts) (swr sl 0 b) = sl.getD k 0 :: swg π ts (swd (swr sl 0 b) (sl.getD k 0)) := by rw [swg, swf_k hSK (by omega) hbf u2 u1 (by assumption) hfj]
                have hrr : ∀ p, p < 5 → swr sl 0 (b ||| 2 ^ k) p = swd (swr sl 0 b) (sl.getD k 0) p := fun p _ => by have := swr_set (b := b) sl 0 k _ hsk (by rw [Nat.zero_add]; exact hbf) p; rw [Nat.zero_add] at this; exact this
                refine V_iload_n (pc := 134) C (dk k_Z_swap 76 rfl) rfl ?_
                refine V_iconst (pc := 135) C (dk k_Z_swap 77 rfl) rfl ?_
                refine V_iload (pc := 136) C (dk k_Z_swap 78 rfl) rfl ?_
                refine V_ishl (pc := 138) C (dk k_Z_swap 79 rfl) (by omega) (by omega) (by omega) (by rw [p2I]; omega) ?_
                refine V_ior (pc := 139) C (dk k_Z_swap 80 rfl) ⟨by omega, by omega⟩ ⟨by rw [p2I]; omega, by rw [p2I]; omega⟩ (by omega) (by rw [p2I]; omega) ?_
                rw [orI]
                refine V_istore_n (pc := 140) C (dk k_Z_swap 81 rfl) (by rw [hXN]; decide) ?_
                dsimp only [lst, lstL, lz, kill, Fin.val, Nat.reduceAdd]
                refine V_aload_n (pc := 141) C (dk k_Z_swap 82 rfl) rfl ?_
                refine V_getr (pc := 142) (o2 := 146) C (dk k_Z_swap 83 rfl) fl_Z_61 kq_128 (by decide) rfl (by decide) rfl ?_
                refine V_iload (pc := 145) C (dk k_Z_swap 84 rfl) rfl ?_
                refine V_iald (pc := 147) C (dk k_Z_swap 85 rfl) kq_146 (by decide) (by omega) (by omega) ?_
                rw [qS.2 k _ hsk]
                refine V_istore_n (pc := 148) C (dk k_Z_swap 86 rfl) (by rw [hXN]; decide) ?_
                dsimp only [lst, lstL, lz, kill, Fin.val, Nat.reduceAdd]
                refine V_iinc (pc := 149) C (dk k_Z_swap 87 rfl) (by rw [hXN]; decide) rfl ?_
                dsimp only [lst, lstL, lz, kill, Fin.val, Nat.reduceAdd]
                refine V_goto (pc := 152) C (dk k_Z_swap 88 rfl) 57 rfl ?_
                refine V_fg 5 ?_
                dsimp only [fg]
                refine ih (i + 1, (b ||| 2 ^ k, ((sl.getD k 0 : Nat) : Int))) ⟨by dsimp only; omega, hor, by dsimp only; rw [v2, hbi], fun hm => ?_, fun hm => ?_⟩ (by dsimp only; omega)
                · dsimp only at hm ⊢; rw [hda.2.1] at hm ⊢; have hlt := drop_lt K6 hda0 u hm; rw [hJ1 hin, hda0, hgv, swa, if_neg (by omega)]; rw [swg_cg π ts _ _ hrr]
                · dsimp only at hm ⊢; rw [hda.2.1] at hm; rw [hda0] at hin; rcases List.mem_cons.mp hin with hu0 | hu0
                  · rw [hJ1 (by rw [hda0]; exact hin), hda0, hgv, swa, if_pos (by rw [hu0])]
                  · exact absurd hu0 hm
              · skip
                first | (have hneq : ¬ (swC π t0 ts (swr sl 0 b)) (sl.getD k 0) = swL π (t0 :: ts) (swr sl 0 b) := by assumption) | skip
                refine V_iinc (pc := 128) C (dk k_Z_swap 74 rfl) (by rw [hXN]; decide) rfl ?_
                dsimp only [lst, lstL, lz, kill, Fin.val, Nat.reduceAdd]
                refine V_goto (pc := 131) C (dk k_Z_swap 75 rfl) 80 rfl ?_
                have hkne : k ≠ kk := fun e => by first | (have hh : b.testBit k = true := (by assumption); rw [e, kk2] at hh; cases hh) | (subst e; rw [slD kk1] at hneq; exact hneq pw3)
                exact ihk (k + 1) ⟨by omega, fun j a d => by by_cases e : j = k; (subst e; first | (exfalso; rw [show b.testBit j = true by assumption] at d; cases d) | exact hneq); exact hfj j (by omega) d⟩ (by omega)
      · skip
        refine V_iload_n (pc := 33) C (dk k_Z_swap 19 rfl) rfl ?_
        refine V_ifge (pc := 34) C (dk k_Z_swap 20 rfl) 46 rfl (by first | exact hR _ _ | with_reducible assumption | exact ⟨by omega, by omega⟩) (fun h9 => ?_) (fun h9 => ?_)
        · skip
          refine V_bipush (pc := 46) (n' := (-4)) C (dk k_Z_swap 26 rfl) rfl ?_
          refine V_iret (pc := 48) C E (dk k_Z_swap 27 rfl) ?_
          first | (exfalso; omega) | (rw [show o_swap π x t = swL π ms q by rw [hq, hms]; exact if_pos (by omega)]; exact ⟨congrArg (fun z => some (vI z)) ((qK 0 (by omega)).trans (swK_0 hSK)), MR.st ok hC hFX hxF, hFX.m⟩) | (rw [show o_swap π x t = -4 by unfold o_swap; rw [if_neg (by omega), if_pos (by omega)]; exact swa_no _ _ _ (fun v hv e => by have := ((swM_mem x (pN π) v).mp hv).2; rw [← e] at this; omega)]; exact ⟨rfl, MR.st ok hC hFX hxF, hFX.m⟩)
        · skip
          refine V_aload_n (pc := 37) C (dk k_Z_swap 21 rfl) rfl ?_
          refine V_getr (pc := 38) (o2 := 148) C (dk k_Z_swap 22 rfl) fl_Z_67 kq_128 (by decide) rfl (by decide) rfl ?_
          refine V_iconst (pc := 41) C (dk k_Z_swap 23 rfl) rfl ?_
          refine V_iald (pc := 42) C (dk k_Z_swap 24 rfl) kq_148 (by decide) (by decide) (by decide) ?_
          refine V_goto (pc := 43) C (dk k_Z_swap 25 rfl) 48 rfl ?_
          refine V_iret (pc := 48) C E (dk k_Z_swap 27 rfl) ?_
          first | (exfalso; omega) | (rw [show o_swap π x t = swL π ms q by rw [hq, hms]; exact if_pos (by omega)]; exact ⟨congrArg (fun z => some (vI z)) ((qK 0 (by omega)).trans (swK_0 hSK)), MR.st ok hC hFX hxF, hFX.m⟩) | (rw [show o_swap π x t = -4 by unfold o_swap; rw [if_neg (by omega), if_pos (by omega)]; exact swa_no _ _ _ (fun v hv e => by have := ((swM_mem x (pN π) v).mp hv).2; rw [← e] at this; omega)]; exact ⟨rfl, MR.st ok hC hFX hxF, hFX.m⟩)
  · skip
    refine V_iconst (pc := 14) C (dk k_Z_swap 8 rfl) rfl ?_
    refine V_iret (pc := 15) C E (dk k_Z_swap 9 rfl) ?_
    rw [show o_swap π x t = -1 by unfold o_swap; rw [if_neg (by omega), if_neg (by omega)]]
    exact ⟨rfl, hC, Fm.rf σ⟩
