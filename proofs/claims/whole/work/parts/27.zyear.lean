/-- a product over the first k, each factor by a bit of w -/
def gp (h : Nat → Bool → Int) (w : Nat) : Nat → Int
  | 0 => 1
  | k + 1 => gp h w k * h k (w.testBit k)
def gq (h : Nat → Bool → Int) : Nat → Int
  | 0 => 1
  | k + 1 => gq h k * (h k true + h k false)
def ssn (f : Nat → Int) : Nat → Int
  | 0 => 0
  | n + 1 => ssn f n + f n
theorem ssn_add (f : Nat → Int) (a : Nat) : ∀ b : Nat, ssn f (a + b) = ssn f a + ssn (fun w => f (a + w)) b
  | 0 => by rw [Nat.add_zero, ssn, Int.add_zero]
  | b + 1 => by rw [← Nat.add_assoc, ssn, ssn_add f a b, ssn, Int.add_assoc]
theorem ssn_cg (f g : Nat → Int) : ∀ n : Nat, (∀ w, w < n → f w = g w) → ssn f n = ssn g n
  | 0, _ => rfl
  | n + 1, h => by rw [ssn, ssn, ssn_cg f g n (fun w a => h w (by omega)), h n (by omega)]
theorem ssn_mul (f : Nat → Int) (c : Int) : ∀ n : Nat, ssn (fun w => f w * c) n = ssn f n * c
  | 0 => by simp [ssn]
  | n + 1 => by rw [ssn, ssn, ssn_mul f c n, Int.add_mul]
theorem ssn_sub (f g : Nat → Int) : ∀ n : Nat, ssn (fun w => f w - g w) n = ssn f n - ssn g n
  | 0 => rfl
  | n + 1 => by rw [ssn, ssn, ssn, ssn_sub f g n]; omega
theorem gp_hi (h : Nat → Bool → Int) {w n : Nat} : ∀ k : Nat, k ≤ n → gp h (2 ^ n + w) k = gp h w k
  | 0, _ => rfl
  | k + 1, hk => by rw [gp, gp, gp_hi h k (by omega), Nat.testBit_two_pow_add_gt (by omega)]
theorem gp_sum (h : Nat → Bool → Int) : ∀ n : Nat, ssn (fun w => gp h w n) (2 ^ n) = gq h n
  | 0 => by show (0 : Int) + 1 = 1; rfl
  | n + 1 => by
    rw [Nat.pow_succ, Nat.mul_two, ssn_add]
    have e1 : ssn (fun w => gp h w (n + 1)) (2 ^ n) = ssn (fun w => gp h w n * h n false) (2 ^ n) := ssn_cg _ _ _ (fun w a => by
      show gp h w n * h n (w.testBit n) = _
      rw [Nat.testBit_lt_two_pow a])
    have e2 : ssn (fun w => gp h (2 ^ n + w) (n + 1)) (2 ^ n) = ssn (fun w => gp h w n * h n true) (2 ^ n) := ssn_cg _ _ _ (fun w a => by
      show gp h (2 ^ n + w) n * h n ((2 ^ n + w).testBit n) = _
      rw [gp_hi h n (Nat.le_refl _), Nat.testBit_two_pow_add_eq, Nat.testBit_lt_two_pow a]; rfl)
    rw [e1, e2, ssn_mul, ssn_mul, gp_sum h n, gq, Int.mul_add, Int.add_comm]
/-- how often a course of days comes: by whims alone; and where the price is below m on each -/
def hW (c : Int) : Nat → Bool → Int := fun _ b => if b = true then c else 10 - c
def hN (π : PL) (x : ST) (t m c : Int) : Nat → Bool → Int := fun k b => if (if b = true then 0 else sN x t * rt π (sD x + k)) < m then (if b = true then c else 10 - c) else 0
def isw (π : PL) (x : ST) (t m : Int) (w : Nat) : Nat → Bool
  | 0 => false
  | k + 1 => isw π x t m w k || decide (m ≤ if w.testBit k = true then 0 else sN x t * rt π (sD x + k))
theorem gq_W (c : Int) : ∀ n : Nat, gq (hW c) n = 10 ^ n
  | 0 => rfl
  | n + 1 => by
    rw [gq, gq_W c n, Int.pow_succ]
    show 10 ^ n * (c + (10 - c)) = 10 ^ n * 10
    rw [show c + (10 - c) = 10 by omega]
theorem gq_N (π : PL) (x : ST) (t m c : Int) : ∀ n : Nat, gq (hN π x t m c) n = nvr π x t m c n
  | 0 => rfl
  | n + 1 => by rw [gq, gq_N π x t m c n, nvr]; rfl
theorem gp_is (π : PL) (x : ST) (t m c : Int) (w : Nat) : ∀ k : Nat, gp (hN π x t m c) w k = if isw π x t m w k = true then 0 else gp (hW c) w k
  | 0 => rfl
  | k + 1 => by
    rw [gp, gp_is π x t m c w k, isw, gp]
    by_cases h1 : isw π x t m w k = true
    · rw [if_pos h1, h1, Bool.true_or, if_pos rfl, Int.zero_mul]
    · rw [if_neg h1, Bool.eq_false_iff.mpr h1, Bool.false_or]
      show gp (hW c) w k * (if (if w.testBit k = true then (0 : Int) else sN x t * rt π (sD x + k)) < m then (if w.testBit k = true then c else 10 - c) else 0) = if decide (m ≤ if w.testBit k = true then (0 : Int) else sN x t * rt π (sD x + k)) = true then 0 else gp (hW c) w k * (if w.testBit k = true then c else 10 - c)
      generalize (if w.testBit k = true then (0 : Int) else sN x t * rt π (sD x + k)) = v
      by_cases h2 : m ≤ v
      · rw [if_neg (show ¬ v < m by omega), decide_eq_true h2, if_pos (show true = true from rfl), Int.mul_zero]
      · rw [if_pos (show v < m by omega), decide_eq_false h2, if_neg (show ¬ (false = true) by decide)]
/-- the sum over the courses below w on which it comes to m -/
def whs (π : PL) (x : ST) (t m c : Int) (n w : Nat) : Int := ssn (fun w => if isw π x t m w n = true then gp (hW c) w n else 0) w
theorem whs_all (π : PL) (x : ST) (t m c : Int) (n : Nat) : whs π x t m c n (2 ^ n) = 10 ^ n - nvr π x t m c n := by
  unfold whs
  rw [ssn_cg _ (fun w => gp (hW c) w n - gp (hN π x t m c) w n) (2 ^ n) (fun w _ => by
    rw [gp_is]
    split <;> omega), ssn_sub, gp_sum, gp_sum, gq_W, gq_N]

def i_Z_year : List (Nat × (Instr × Nat)) := [(0, (.iload_n 1, 1)), (1, (.iconst 0, 1)), (2, (.sipush 9999, 3)), (5, (.invokestatic 93, 3)), (8, (.ifCond .eq 22, 3)), (11, (.iload_n 2, 1)), (12, (.iconst 1, 1)), (13, (.bipush 60, 2)), (15, (.invokestatic 93, 3)), (18, (.ifCond .eq 12, 3)), (21, (.iload_n 3, 1)), (22, (.iconst 0, 1)), (23, (.iconst 1, 1)), (24, (.invokestatic 93, 3)), (27, (.ifCond .ne 5, 3)), (30, (.iconst (-1), 1)), (31, (.ireturn, 1)), (32, (.aload_n 0, 1)), (33, (.invokevirtual 212, 3)), (36, (.iconst 0, 1)), (37, (.istore 4, 2)), (39, (.iload 4, 2)), (41, (.iload_n 2, 1)), (42, (.if_icmp .ge 135, 3)), (45, (.ldc2_w 259, 3)), (48, (.iload_n 1, 1)), (49, (.i2l, 1)), (50, (.lmul, 1)), (51, (.ldc2_w 261, 3)), (54, (.iload 4, 2)), (56, (.i2l, 1)), (57, (.lmul, 1)), (58, (.ladd, 1)), (59, (.lconst 1, 1)), (60, (.ladd, 1)), (61, (.lstore 5, 2)), (63, (.lload 5, 2)), (65, (.lload 5, 2)), (67, (.lmul, 1)), (68, (.ldc2_w 263, 3)), (71, (.lrem, 1)), (72, (.l2i, 1)), (73, (.istore 7, 2)), (75, (.aload_n 0, 1)), (76, (.getfield 81, 3)), (79, (.ifCond .ne 7, 3)), (82, (.iconst 0, 1)), (83, (.goto 13, 3)), (86, (.iload 7, 2)), (88, (.bipush 8, 2)), (90, (.idiv, 1)), (91, (.aload_n 0, 1)), (92, (.getfield 81, 3)), (95, (.irem, 1)), (96, (.istore 8, 2)), (98, (.aload_n 0, 1)), (99, (.getfield 81, 3)), (102, (.ifCond .le 30, 3)), (105, (.iload 7, 2)), (107, (.bipush 8, 2)), (109, (.irem, 1)), (110, (.iconst 4, 1)), (111, (.if_icmp .ge 21, 3)), (114, (.aload_n 0, 1)), (115, (.iload 8, 2)), (117, (.invokevirtual 190, 3)), (120, (.ifCond .eq 12, 3)), (123, (.aload_n 0, 1)), (124, (.iload 8, 2)), (126, (.invokevirtual 196, 3)), (129, (.goto 38, 3)), (132, (.aload_n 0, 1)), (133, (.getfield 81, 3)), (136, (.ifCond .le 31, 3)), (139, (.iload 7, 2)), (141, (.bipush 8, 2)), (143, (.irem, 1)), (144, (.iconst 4, 1)), (145, (.iconst 5, 1)), (146, (.invokestatic 93, 3)), (149, (.ifCond .eq 18, 3)), (152, (.aload_n 0, 1)), (153, (.iload 8, 2)), (155, (.invokevirtual 200, 3)), (158, (.ifCond .eq 9, 3)), (161, (.aload_n 0, 1)), (162, (.iload 8, 2)), (164, (.invokevirtual 203, 3)), (167, (.aload_n 0, 1)), (168, (.invokevirtual 170, 3)), (171, (.iinc 4 1, 3)), (174, (.goto (-135), 3)), (177, (.iconst 0, 1)), (178, (.istore 4, 2)), (180, (.iconst 0, 1)), (181, (.istore 5, 2)), (183, (.iload 5, 2)), (185, (.aload_n 0, 1)), (186, (.getfield 73, 3)), (189, (.if_icmp .ge 21, 3)), (192, (.iload 4, 2)), (194, (.aload_n 0, 1)), (195, (.getfield 25, 3)), (198, (.iload 5, 2)), (200, (.iaload, 1)), (201, (.iadd, 1)), (202, (.istore 4, 2)), (204, (.iinc 5 1, 3)), (207, (.goto (-24), 3)), (210, (.iload_n 3, 1)), (211, (.ifCond .ne 10, 3)), (214, (.aload_n 0, 1)), (215, (.invokevirtual 218, 3)), (218, (.goto 5, 3)), (221, (.iload 4, 2)), (223, (.istore 5, 2)), (225, (.aload_n 0, 1)), (226, (.invokevirtual 215, 3)), (229, (.iload 5, 2)), (231, (.ireturn, 1))]
theorem k_Z_year : i_Z_year.all (fun q => decide (decode b_Z_year q.1 = .ok q.2)) = true := by decide +kernel

set_option maxHeartbeats 1000000 in
set_option maxRecDepth 20000 in
theorem c_Z_year (l : Launch) (G : GE) (σ : Wd) (π : PL) (x : ST) (us ks : List ST) (lk : List (Int × (Int × Int))) (tx : List Int) (j : Int) (hC : MR σ π x us ks lk tx) (hV : VK π x us ks j) (hj : j ≤ 100) (z n k : Int) (hz : inR z) (hn : inR n) (hk : inR k) : Ct l G y_Z_year b_Z_year 9 (some (.int)) 3 64 [vR 128, vI z, vI n, vI k] σ (Rt (some (vI (o_year π x z n k))) (fun σ' => MR σ' π x us ks lk tx ∧ Fm σ σ')) := by
  refine Ct.of cm_Z_year (Nat.le_of_ble_eq_true rfl) ?_
  intro X hXl hXG hXN hRm C E
  subst hXl; subst hXG
  have ⟨hz_1, hz_2⟩ := hz
  have ⟨hn_1, hn_2⟩ := hn
  have ⟨hk_1, hk_2⟩ := hk
  show V X 0 [some (vR 128), some (vI z), some (vI n), some (vI k), none, none, none, none, none] [] σ
  refine V_R (fun hR => ?_)
  obtain ⟨hπ, hx, hU, hK, hl, hT⟩ := id hC
  obtain ⟨ok, xk, usk, ksk, ks2⟩ := id hV
  have hπ0 := hπ
  obtain ⟨e0, e1, e2, e3, eT, eX⟩ := hπ
  have ⟨k1, k2, k3, k4, k5, k6, kT, kX⟩ := ok
  have hx0 := hx
  obtain ⟨f0, f1, fQ, fT⟩ := hx
  have ⟨x1, x2, x3, x4, xQ, xT⟩ := xk
  refine V_iload_n (pc := 0) C (dk k_Z_year 0 rfl) rfl ?_
  refine V_iconst (pc := 1) C (dk k_Z_year 1 rfl) rfl ?_
  refine V_sipush (pc := 2) (n' := 9999) C (dk k_Z_year 2 rfl) rfl ?_
  refine V_callS (pc := 5) C (dk k_Z_year 3 rfl) lk_Z_93 cm_Z_in sm_Z_in (c_Z_in _ _ _ z 0 9999 hz ⟨by decide, by decide⟩ ⟨by decide, by decide⟩) rfl rfl (Nat.le_of_ble_eq_true rfl) (Rm.mono hRm (by decide) (by decide)) ?_
  refine V_ifeqB (pc := 8) C (dk k_Z_year 4 rfl) 30 rfl (fun h1 => ?_) (fun h1 => ?_)
  · skip
    refine V_iconst (pc := 30) C (dk k_Z_year 15 rfl) rfl ?_
    refine V_iret (pc := 31) C E (dk k_Z_year 16 rfl) ?_
    rw [show o_year π x z n k = -1 from if_neg (by omega)]
    exact ⟨rfl, hC, Fm.rf σ⟩
  · skip
    refine V_iload_n (pc := 11) C (dk k_Z_year 5 rfl) rfl ?_
    refine V_iconst (pc := 12) C (dk k_Z_year 6 rfl) rfl ?_
    refine V_bipush (pc := 13) (n' := 60) C (dk k_Z_year 7 rfl) rfl ?_
    refine V_callS (pc := 15) C (dk k_Z_year 8 rfl) lk_Z_93 cm_Z_in sm_Z_in (c_Z_in _ _ _ n 1 60 hn ⟨by decide, by decide⟩ ⟨by decide, by decide⟩) rfl rfl (Nat.le_of_ble_eq_true rfl) (Rm.mono hRm (by decide) (by decide)) ?_
    refine V_ifeqB (pc := 18) C (dk k_Z_year 9 rfl) 30 rfl (fun h2 => ?_) (fun h2 => ?_)
    · skip
      refine V_iconst (pc := 30) C (dk k_Z_year 15 rfl) rfl ?_
      refine V_iret (pc := 31) C E (dk k_Z_year 16 rfl) ?_
      rw [show o_year π x z n k = -1 from if_neg (by omega)]
      exact ⟨rfl, hC, Fm.rf σ⟩
    · skip
      refine V_iload_n (pc := 21) C (dk k_Z_year 10 rfl) rfl ?_
      refine V_iconst (pc := 22) C (dk k_Z_year 11 rfl) rfl ?_
      refine V_iconst (pc := 23) C (dk k_Z_year 12 rfl) rfl ?_
      refine V_callS (pc := 24) C (dk k_Z_year 13 rfl) lk_Z_93 cm_Z_in sm_Z_in (c_Z_in _ _ _ k 0 1 hk ⟨by decide, by decide⟩ ⟨by decide, by decide⟩) rfl rfl (Nat.le_of_ble_eq_true rfl) (Rm.mono hRm (by decide) (by decide)) ?_
      refine V_ifneB (pc := 27) C (dk k_Z_year 14 rfl) 32 rfl (fun h3 => ?_) (fun h3 => ?_)
      · skip
        refine V_aload_n (pc := 32) C (dk k_Z_year 17 rfl) rfl ?_
        refine V_callV0r (pc := 33) C (dk k_Z_year 18 rfl) lk_Z_212 cm_Z_begin vm_Z_begin (c_Z_begin _ _ _ π x ok hx0) kq_128 rfl rfl rfl (Nat.le_of_ble_eq_true rfl) (Rm.mono hRm (by decide) (by decide)) (fun τ1 hq1 => ?_)
        refine V_R (fun hR => ?_)
        refine V_iconst (pc := 36) C (dk k_Z_year 19 rfl) rfl ?_
        refine V_istore (pc := 37) C (dk k_Z_year 20 rfl) (by rw [hXN]; decide) ?_
        dsimp only [lst, lstL, lz, kill, Fin.val, Nat.reduceAdd]
        refine V_eq (V_loop (fun q : Nat × Wd => (q.1 : Int) ≤ n ∧ StM q.2 π (yearX π x z q.1) ∧ FrZ τ1 q.2) (fun q => [some (vR 128), some (vI z), some (vI n), some (vI k), some (vI (q.1 : Int)), none, none, none, none]) (fun q => q.2) (fun q => n.toNat - q.1) (fun q hq ih => ?_) (0, τ1) ⟨by dsimp only; omega, (hx0.fx (fun k i a => hq1.2 k i (Or.inl (by omega)))), FrZ.rf _⟩) rfl rfl rfl
        obtain ⟨i, τ⟩ := q
        obtain ⟨hi, hx1, hfr⟩ := hq
        dsimp only at hi hx1 hfr ih ⊢
        refine V_R (fun hR => ?_)
        have gP : PlM τ π := (hπ0.fx (fun k i a => hq1.2 k i (Or.inl (by omega)))).fr hfr
        have yk := year_ok (z := z) ok xk i
        have hx5 := hx1
        have hf5 := FrZ.rf τ
        have ⟨d0, d1⟩ := drw_b z i
        have m0 := Int.emod_nonneg (drw z i) (b := 8) (by decide)
        have m1 := Int.emod_lt_of_pos (drw z i) (b := 8) (by decide)
        refine V_iload (pc := 39) C (dk k_Z_year 21 rfl) rfl ?_
        refine V_iload_n (pc := 41) C (dk k_Z_year 22 rfl) rfl ?_
        refine V_icmpge (pc := 42) C (dk k_Z_year 23 rfl) 177 rfl (by first | exact hR _ _ | with_reducible assumption | exact ⟨by omega, by omega⟩) (by first | exact hR _ _ | with_reducible assumption | exact ⟨by omega, by omega⟩) (fun h4 => ?_) (fun h4 => ?_)
        · skip
          refine V_iconst (pc := 177) C (dk k_Z_year 92 rfl) rfl ?_
          refine V_istore (pc := 178) C (dk k_Z_year 93 rfl) (by rw [hXN]; decide) ?_
          dsimp only [lst, lstL, lz, kill, Fin.val, Nat.reduceAdd]
          refine V_iconst (pc := 180) C (dk k_Z_year 94 rfl) rfl ?_
          refine V_istore (pc := 181) C (dk k_Z_year 95 rfl) (by rw [hXN]; decide) ?_
          dsimp only [lst, lstL, lz, kill, Fin.val, Nat.reduceAdd]
          obtain rfl : n = i := by omega
          refine V_eq (V_loop (fun p : Nat => p ≤ pP π) (fun p => [some (vR 128), some (vI z), some (vI (i : Int)), some (vI k), some (vI (sm (fun q => sR (yearX π x z i) q) p)), some (vI (p : Int)), none, none, none]) (fun _ => τ) (fun p => pP π - p) (fun p hp ih3 => ?_) 0 (Nat.zero_le _)) rfl rfl rfl
          refine V_iload (pc := 183) C (dk k_Z_year 96 rfl) rfl ?_
          refine V_aload_n (pc := 185) C (dk k_Z_year 97 rfl) rfl ?_
          refine V_geti (pc := 186) (ji := 0) C (dk k_Z_year 98 rfl) fl_Z_73 kq_128 (by decide) rfl rfl ?_
          rw [gP.1]
          refine V_icmpge (pc := 189) C (dk k_Z_year 99 rfl) 210 rfl (by first | exact hR _ _ | with_reducible assumption | exact ⟨by omega, by omega⟩) (by first | exact hR _ _ | with_reducible assumption | exact ⟨by omega, by omega⟩) (fun h5 => ?_) (fun h5 => ?_)
          · skip
            refine V_iload_n (pc := 210) C (dk k_Z_year 109 rfl) rfl ?_
            refine V_ifne (pc := 211) C (dk k_Z_year 110 rfl) 221 rfl (by first | exact hR _ _ | with_reducible assumption | exact ⟨by omega, by omega⟩) (fun h6 => ?_) (fun h6 => ?_)
            · skip
              refine V_iload (pc := 221) C (dk k_Z_year 114 rfl) rfl ?_
              refine V_istore (pc := 223) C (dk k_Z_year 115 rfl) (by rw [hXN]; decide) ?_
              dsimp only [lst, lstL, lz, kill, Fin.val, Nat.reduceAdd]
              refine V_aload_n (pc := 225) C (dk k_Z_year 116 rfl) rfl ?_
              refine V_callV0r (pc := 226) C (dk k_Z_year 117 rfl) lk_Z_215 cm_Z_putBack vm_Z_putBack (c_Z_putBack _ _ _ π x ok (hq1.1.fr ok (fun i _ _ => hfr 145 (0 + i) (by omega) (by omega)))) kq_128 rfl rfl rfl (Nat.le_of_ble_eq_true rfl) (Rm.mono hRm (by decide) (by decide)) (fun τ4 hq4 => ?_)
              refine V_R (fun hR => ?_)
              refine V_iload (pc := 229) C (dk k_Z_year 118 rfl) rfl ?_
              refine V_iret (pc := 231) C E (dk k_Z_year 119 rfl) ?_
              obtain rfl : p = pP π := by omega
              have hFX : FrX σ τ4 := hq1.2.x.tr (hfr.x.tr hq4.2.x)
              refine ⟨?_, MR.st ok hC hFX hq4.1, hFX.m⟩
              unfold o_year
              first | (rw [if_pos (by omega), if_pos (by omega), Int.toNat_natCast]; done) | (rw [if_pos (by omega), if_neg (by omega), Int.toNat_natCast]; done)
            · skip
              refine V_aload_n (pc := 214) C (dk k_Z_year 111 rfl) rfl ?_
              refine V_callV (pc := 215) C (dk k_Z_year 112 rfl) lk_Z_218 cm_Z_nearIn vm_Z_nearIn (c_Z_nearIn _ _ _ π (yearX π x z i) (j + i) gP ok hx1 yk (by omega)) kq_128 rfl rfl rfl (Nat.le_of_ble_eq_true rfl) (Rm.mono hRm (by decide) (by decide)) ?_
              refine V_goto (pc := 218) C (dk k_Z_year 113 rfl) 223 rfl ?_
              refine V_istore (pc := 223) C (dk k_Z_year 115 rfl) (by rw [hXN]; decide) ?_
              dsimp only [lst, lstL, lz, kill, Fin.val, Nat.reduceAdd]
              refine V_aload_n (pc := 225) C (dk k_Z_year 116 rfl) rfl ?_
              refine V_callV0r (pc := 226) C (dk k_Z_year 117 rfl) lk_Z_215 cm_Z_putBack vm_Z_putBack (c_Z_putBack _ _ _ π x ok (hq1.1.fr ok (fun i _ _ => hfr 145 (0 + i) (by omega) (by omega)))) kq_128 rfl rfl rfl (Nat.le_of_ble_eq_true rfl) (Rm.mono hRm (by decide) (by decide)) (fun τ4 hq4 => ?_)
              refine V_R (fun hR => ?_)
              refine V_iload (pc := 229) C (dk k_Z_year 118 rfl) rfl ?_
              refine V_iret (pc := 231) C E (dk k_Z_year 119 rfl) ?_
              obtain rfl : p = pP π := by omega
              have hFX : FrX σ τ4 := hq1.2.x.tr (hfr.x.tr hq4.2.x)
              refine ⟨?_, MR.st ok hC hFX hq4.1, hFX.m⟩
              unfold o_year
              first | (rw [if_pos (by omega), if_pos (by omega), Int.toNat_natCast]; done) | (rw [if_pos (by omega), if_neg (by omega), Int.toNat_natCast]; done)
          · skip
            refine V_iload (pc := 192) C (dk k_Z_year 100 rfl) rfl ?_
            refine V_aload_n (pc := 194) C (dk k_Z_year 101 rfl) rfl ?_
            refine V_getr (pc := 195) (o2 := 134) C (dk k_Z_year 102 rfl) fl_Z_25 kq_128 (by decide) rfl (by decide) rfl ?_
            refine V_iload (pc := 198) C (dk k_Z_year 103 rfl) rfl ?_
            refine V_iald (pc := 200) C (dk k_Z_year 104 rfl) kq_134 (by decide) (by omega) (by omega) ?_
            rw [(hx1.2.2.1 p (by omega) (by omega)).2]
            refine V_iadd (pc := 201) C (dk k_Z_year 105 rfl) ?_
            refine V_istore (pc := 202) C (dk k_Z_year 106 rfl) (by rw [hXN]; decide) ?_
            dsimp only [lst, lstL, lz, kill, Fin.val, Nat.reduceAdd]
            refine V_iinc (pc := 204) C (dk k_Z_year 107 rfl) (by rw [hXN]; decide) rfl ?_
            dsimp only [lst, lstL, lz, kill, Fin.val, Nat.reduceAdd]
            refine V_goto (pc := 207) C (dk k_Z_year 108 rfl) 183 rfl ?_
            exact ih3 (p + 1) (by omega) (by omega)
        · skip
          refine V_ldc2 (pc := 45) (n' := 7919) C (dk k_Z_year 24 rfl) kc_Z_259 rfl ?_
          refine V_iload_n (pc := 48) C (dk k_Z_year 25 rfl) rfl ?_
          refine V_i2l (pc := 49) C (dk k_Z_year 26 rfl) (by first | exact hR _ _ | with_reducible assumption | exact ⟨by omega, by omega⟩) ?_
          refine V_lmul (pc := 50) C (dk k_Z_year 27 rfl) ?_
          refine V_ldc2 (pc := 51) (n' := 6151) C (dk k_Z_year 28 rfl) kc_Z_261 rfl ?_
          refine V_iload (pc := 54) C (dk k_Z_year 29 rfl) rfl ?_
          refine V_i2l (pc := 56) C (dk k_Z_year 30 rfl) (by first | exact hR _ _ | with_reducible assumption | exact ⟨by omega, by omega⟩) ?_
          refine V_lmul (pc := 57) C (dk k_Z_year 31 rfl) ?_
          refine V_ladd (pc := 58) C (dk k_Z_year 32 rfl) ?_
          refine V_lconst (pc := 59) (n' := 1) C (dk k_Z_year 33 rfl) rfl ?_
          refine V_ladd (pc := 60) C (dk k_Z_year 34 rfl) ?_
          refine V_lstore (pc := 61) C (dk k_Z_year 35 rfl) (by rw [hXN]; decide) ?_
          dsimp only [lst, lstL, lz, kill, Fin.val, Nat.reduceAdd]
          have y0 : 0 ≤ 7919 * z + 6151 * (i : Int) + 1 := by omega
          have y1 : 7919 * z + 6151 * (i : Int) + 1 ≤ 80000000 := by omega
          have yy : (7919 * z + 6151 * (i : Int) + 1) * (7919 * z + 6151 * (i : Int) + 1) ≤ 80000000 * 80000000 := Int.mul_le_mul y1 y1 y0 (by omega)
          have yz : 0 ≤ (7919 * z + 6151 * (i : Int) + 1) * (7919 * z + 6151 * (i : Int) + 1) := Int.mul_nonneg y0 y0
          refine V_lload (pc := 63) C (dk k_Z_year 36 rfl) rfl ?_
          refine V_lload (pc := 65) C (dk k_Z_year 37 rfl) rfl ?_
          refine V_lmul (pc := 67) C (dk k_Z_year 38 rfl) ?_
          refine V_ldc2 (pc := 68) (n' := 65521) C (dk k_Z_year 39 rfl) kc_Z_263 rfl ?_
          refine V_lrem (pc := 71) C (dk k_Z_year 40 rfl) ⟨by omega, by omega⟩ ⟨by omega, by omega⟩ (by omega) (by omega) ?_
          show V X _ _ [vL (drw z i)] _
          refine V_l2i (pc := 72) C (dk k_Z_year 41 rfl) ?_
          refine V_istore (pc := 73) C (dk k_Z_year 42 rfl) (by rw [hXN]; decide) ?_
          dsimp only [lst, lstL, lz, kill, Fin.val, Nat.reduceAdd]
          refine V_aload_n (pc := 75) C (dk k_Z_year 43 rfl) rfl ?_
          refine V_geti (pc := 76) (ji := 1) C (dk k_Z_year 44 rfl) fl_Z_81 kq_128 (by decide) rfl rfl ?_
          rw [gP.2.1]
          refine V_ifne (pc := 79) C (dk k_Z_year 45 rfl) 86 rfl (by first | exact hR _ _ | with_reducible assumption | exact ⟨by omega, by omega⟩) (fun h7 => ?_) (fun h7 => ?_)
          · skip
            have q0 : 0 ≤ drw z i / 8 := Int.ediv_nonneg d0 (by decide)
            have q1 : drw z i / 8 ≤ drw z i := Int.ediv_le_self _ d0
            have t0 := Int.emod_nonneg (drw z i / 8) (b := (pN π : Int)) (by omega)
            have t1 := Int.emod_lt_of_pos (drw z i / 8) (b := (pN π : Int)) (by omega)
            refine V_iload (pc := 86) C (dk k_Z_year 48 rfl) rfl ?_
            refine V_bipush (pc := 88) (n' := 8) C (dk k_Z_year 49 rfl) rfl ?_
            refine V_idiv (pc := 90) C (dk k_Z_year 50 rfl) ⟨by omega, by omega⟩ ⟨by omega, by omega⟩ (by omega) (by omega) ?_
            refine V_aload_n (pc := 91) C (dk k_Z_year 51 rfl) rfl ?_
            refine V_geti (pc := 92) (ji := 1) C (dk k_Z_year 52 rfl) fl_Z_81 kq_128 (by decide) rfl rfl ?_
            rw [gP.2.1]
            refine V_irem (pc := 95) C (dk k_Z_year 53 rfl) ⟨by omega, by omega⟩ ⟨by omega, by omega⟩ (by omega) (by omega) ?_
            refine V_istore (pc := 96) C (dk k_Z_year 54 rfl) (by rw [hXN]; decide) ?_
            dsimp only [lst, lstL, lz, kill, Fin.val, Nat.reduceAdd]
            refine V_aload_n (pc := 98) C (dk k_Z_year 55 rfl) rfl ?_
            refine V_geti (pc := 99) (ji := 1) C (dk k_Z_year 56 rfl) fl_Z_81 kq_128 (by decide) rfl rfl ?_
            rw [gP.2.1]
            refine V_ifle (pc := 102) C (dk k_Z_year 57 rfl) 132 rfl (by first | exact hR _ _ | with_reducible assumption | exact ⟨by omega, by omega⟩) (fun h8 => ?_) (fun h8 => ?_)
            · skip
              refine V_aload_n (pc := 132) C (dk k_Z_year 71 rfl) rfl ?_
              refine V_geti (pc := 133) (ji := 1) C (dk k_Z_year 72 rfl) fl_Z_81 kq_128 (by decide) rfl rfl ?_
              rw [gP.2.1]
              refine V_ifle (pc := 136) C (dk k_Z_year 73 rfl) 167 rfl (by first | exact hR _ _ | with_reducible assumption | exact ⟨by omega, by omega⟩) (fun h9 => ?_) (fun h9 => ?_)
              · skip
                first | (have ea : actX π (yearX π x z i) z i = sellX π (yearX π x z i) (drw z i / 8 % pN π) := by (unfold actX; rw [if_neg (by omega), if_pos ⟨by omega, by assumption⟩])) | (have ea : actX π (yearX π x z i) z i = buyX π (yearX π x z i) (drw z i / 8 % pN π) := by (unfold actX; rw [if_neg (by omega), if_neg (fun q => by omega), if_pos ⟨by omega, by assumption⟩])) | (have ea : actX π (yearX π x z i) z i = (yearX π x z i) := if_pos (by omega)) | (have ea : actX π (yearX π x z i) z i = (yearX π x z i) := by (unfold actX; rw [if_neg (by omega), if_neg (fun q => by omega), if_neg (fun q => by omega)]))
                rw [← ea] at hx5
                refine V_aload_n (pc := 167) C (dk k_Z_year 88 rfl) rfl ?_
                refine V_callV0r (pc := 168) C (dk k_Z_year 89 rfl) lk_Z_170 cm_Z_passes vm_Z_passes (c_Z_passes _ _ _ π (actX π (yearX π x z i) z i) (j + i + 1) (gP.fr hf5) ok hx5 ((act_ok (z := z) (k := (i : Int)) ok yk.d).ok (by omega) (by omega)) (by omega)) kq_128 rfl rfl rfl (Nat.le_of_ble_eq_true rfl) (Rm.mono hRm (by decide) (by decide)) (fun τ2 hq2 => ?_)
                refine V_R (fun hR => ?_)
                refine V_iinc (pc := 171) C (dk k_Z_year 90 rfl) (by rw [hXN]; decide) rfl ?_
                dsimp only [lst, lstL, lz, kill, Fin.val, Nat.reduceAdd]
                refine V_goto (pc := 174) C (dk k_Z_year 91 rfl) 39 rfl ?_
                refine V_fg 5 ?_
                refine V_fg 7 ?_
                refine V_fg 8 ?_
                dsimp only [fg]
                exact ih (i + 1, τ2) ⟨by dsimp only; omega, hq2.1, (hfr.tr hf5).tr hq2.2⟩ (by dsimp only; omega)
              · skip
                refine V_iload (pc := 139) C (dk k_Z_year 74 rfl) rfl ?_
                refine V_bipush (pc := 141) (n' := 8) C (dk k_Z_year 75 rfl) rfl ?_
                refine V_irem (pc := 143) C (dk k_Z_year 76 rfl) ⟨by omega, by omega⟩ ⟨by omega, by omega⟩ (by omega) (by omega) ?_
                refine V_iconst (pc := 144) C (dk k_Z_year 77 rfl) rfl ?_
                refine V_iconst (pc := 145) C (dk k_Z_year 78 rfl) rfl ?_
                refine V_callS (pc := 146) C (dk k_Z_year 79 rfl) lk_Z_93 cm_Z_in sm_Z_in (c_Z_in _ _ _ (drw z i % 8) 4 5 ⟨by omega, by omega⟩ ⟨by decide, by decide⟩ ⟨by decide, by decide⟩) rfl rfl (Nat.le_of_ble_eq_true rfl) (Rm.mono hRm (by decide) (by decide)) ?_
                refine V_ifeqB (pc := 149) C (dk k_Z_year 80 rfl) 167 rfl (fun h10 => ?_) (fun h10 => ?_)
                · skip
                  first | (have ea : actX π (yearX π x z i) z i = sellX π (yearX π x z i) (drw z i / 8 % pN π) := by (unfold actX; rw [if_neg (by omega), if_pos ⟨by omega, by assumption⟩])) | (have ea : actX π (yearX π x z i) z i = buyX π (yearX π x z i) (drw z i / 8 % pN π) := by (unfold actX; rw [if_neg (by omega), if_neg (fun q => by omega), if_pos ⟨by omega, by assumption⟩])) | (have ea : actX π (yearX π x z i) z i = (yearX π x z i) := if_pos (by omega)) | (have ea : actX π (yearX π x z i) z i = (yearX π x z i) := by (unfold actX; rw [if_neg (by omega), if_neg (fun q => by omega), if_neg (fun q => by omega)]))
                  rw [← ea] at hx5
                  refine V_aload_n (pc := 167) C (dk k_Z_year 88 rfl) rfl ?_
                  refine V_callV0r (pc := 168) C (dk k_Z_year 89 rfl) lk_Z_170 cm_Z_passes vm_Z_passes (c_Z_passes _ _ _ π (actX π (yearX π x z i) z i) (j + i + 1) (gP.fr hf5) ok hx5 ((act_ok (z := z) (k := (i : Int)) ok yk.d).ok (by omega) (by omega)) (by omega)) kq_128 rfl rfl rfl (Nat.le_of_ble_eq_true rfl) (Rm.mono hRm (by decide) (by decide)) (fun τ2 hq2 => ?_)
                  refine V_R (fun hR => ?_)
                  refine V_iinc (pc := 171) C (dk k_Z_year 90 rfl) (by rw [hXN]; decide) rfl ?_
                  dsimp only [lst, lstL, lz, kill, Fin.val, Nat.reduceAdd]
                  refine V_goto (pc := 174) C (dk k_Z_year 91 rfl) 39 rfl ?_
                  refine V_fg 5 ?_
                  refine V_fg 7 ?_
                  refine V_fg 8 ?_
                  dsimp only [fg]
                  exact ih (i + 1, τ2) ⟨by dsimp only; omega, hq2.1, (hfr.tr hf5).tr hq2.2⟩ (by dsimp only; omega)
                · skip
                  refine V_aload_n (pc := 152) C (dk k_Z_year 81 rfl) rfl ?_
                  refine V_iload (pc := 153) C (dk k_Z_year 82 rfl) rfl ?_
                  refine V_callV (pc := 155) C (dk k_Z_year 83 rfl) lk_Z_200 cm_Z_mayBuy vm_Z_mayBuy (c_Z_mayBuy _ _ _ π (yearX π x z i) (j + i) (drw z i / 8 % pN π) gP ok hx1 yk (by omega) t0 t1) kq_128 rfl rfl rfl (Nat.le_of_ble_eq_true rfl) (Rm.mono hRm (by decide) (by decide)) ?_
                  refine V_ifeqB (pc := 158) C (dk k_Z_year 84 rfl) 167 rfl (fun h11 => ?_) (fun h11 => ?_)
                  · skip
                    first | (have ea : actX π (yearX π x z i) z i = sellX π (yearX π x z i) (drw z i / 8 % pN π) := by (unfold actX; rw [if_neg (by omega), if_pos ⟨by omega, by assumption⟩])) | (have ea : actX π (yearX π x z i) z i = buyX π (yearX π x z i) (drw z i / 8 % pN π) := by (unfold actX; rw [if_neg (by omega), if_neg (fun q => by omega), if_pos ⟨by omega, by assumption⟩])) | (have ea : actX π (yearX π x z i) z i = (yearX π x z i) := if_pos (by omega)) | (have ea : actX π (yearX π x z i) z i = (yearX π x z i) := by (unfold actX; rw [if_neg (by omega), if_neg (fun q => by omega), if_neg (fun q => by omega)]))
                    rw [← ea] at hx5
                    refine V_aload_n (pc := 167) C (dk k_Z_year 88 rfl) rfl ?_
                    refine V_callV0r (pc := 168) C (dk k_Z_year 89 rfl) lk_Z_170 cm_Z_passes vm_Z_passes (c_Z_passes _ _ _ π (actX π (yearX π x z i) z i) (j + i + 1) (gP.fr hf5) ok hx5 ((act_ok (z := z) (k := (i : Int)) ok yk.d).ok (by omega) (by omega)) (by omega)) kq_128 rfl rfl rfl (Nat.le_of_ble_eq_true rfl) (Rm.mono hRm (by decide) (by decide)) (fun τ2 hq2 => ?_)
                    refine V_R (fun hR => ?_)
                    refine V_iinc (pc := 171) C (dk k_Z_year 90 rfl) (by rw [hXN]; decide) rfl ?_
                    dsimp only [lst, lstL, lz, kill, Fin.val, Nat.reduceAdd]
                    refine V_goto (pc := 174) C (dk k_Z_year 91 rfl) 39 rfl ?_
                    refine V_fg 5 ?_
                    refine V_fg 7 ?_
                    refine V_fg 8 ?_
                    dsimp only [fg]
                    exact ih (i + 1, τ2) ⟨by dsimp only; omega, hq2.1, (hfr.tr hf5).tr hq2.2⟩ (by dsimp only; omega)
                  · skip
                    refine V_aload_n (pc := 161) C (dk k_Z_year 85 rfl) rfl ?_
                    refine V_iload (pc := 162) C (dk k_Z_year 86 rfl) rfl ?_
                    refine V_callV0r (pc := 164) C (dk k_Z_year 87 rfl) lk_Z_203 cm_Z_buys vm_Z_buys (c_Z_buys _ _ _ π (yearX π x z i) (j + i) (drw z i / 8 % pN π) gP ok hx1 yk (by omega) t0 t1 (by omega)) kq_128 rfl rfl rfl (Nat.le_of_ble_eq_true rfl) (Rm.mono hRm (by decide) (by decide)) (fun τ3 hq3 => ?_)
                    refine V_R (fun hR => ?_)
                    obtain ⟨hx5, hf5⟩ := hq3
                    first | (have ea : actX π (yearX π x z i) z i = sellX π (yearX π x z i) (drw z i / 8 % pN π) := by (unfold actX; rw [if_neg (by omega), if_pos ⟨by omega, by assumption⟩])) | (have ea : actX π (yearX π x z i) z i = buyX π (yearX π x z i) (drw z i / 8 % pN π) := by (unfold actX; rw [if_neg (by omega), if_neg (fun q => by omega), if_pos ⟨by omega, by assumption⟩])) | (have ea : actX π (yearX π x z i) z i = (yearX π x z i) := if_pos (by omega)) | (have ea : actX π (yearX π x z i) z i = (yearX π x z i) := by (unfold actX; rw [if_neg (by omega), if_neg (fun q => by omega), if_neg (fun q => by omega)]))
                    rw [← ea] at hx5
                    refine V_aload_n (pc := 167) C (dk k_Z_year 88 rfl) rfl ?_
                    refine V_callV0r (pc := 168) C (dk k_Z_year 89 rfl) lk_Z_170 cm_Z_passes vm_Z_passes (c_Z_passes _ _ _ π (actX π (yearX π x z i) z i) (j + i + 1) (gP.fr hf5) ok hx5 ((act_ok (z := z) (k := (i : Int)) ok yk.d).ok (by omega) (by omega)) (by omega)) kq_128 rfl rfl rfl (Nat.le_of_ble_eq_true rfl) (Rm.mono hRm (by decide) (by decide)) (fun τ2 hq2 => ?_)
                    refine V_R (fun hR => ?_)
                    refine V_iinc (pc := 171) C (dk k_Z_year 90 rfl) (by rw [hXN]; decide) rfl ?_
                    dsimp only [lst, lstL, lz, kill, Fin.val, Nat.reduceAdd]
                    refine V_goto (pc := 174) C (dk k_Z_year 91 rfl) 39 rfl ?_
                    refine V_fg 5 ?_
                    refine V_fg 7 ?_
                    refine V_fg 8 ?_
                    dsimp only [fg]
                    exact ih (i + 1, τ2) ⟨by dsimp only; omega, hq2.1, (hfr.tr hf5).tr hq2.2⟩ (by dsimp only; omega)
            · skip
              refine V_iload (pc := 105) C (dk k_Z_year 58 rfl) rfl ?_
              refine V_bipush (pc := 107) (n' := 8) C (dk k_Z_year 59 rfl) rfl ?_
              refine V_irem (pc := 109) C (dk k_Z_year 60 rfl) ⟨by omega, by omega⟩ ⟨by omega, by omega⟩ (by omega) (by omega) ?_
              refine V_iconst (pc := 110) C (dk k_Z_year 61 rfl) rfl ?_
              refine V_icmpge (pc := 111) C (dk k_Z_year 62 rfl) 132 rfl (by first | exact hR _ _ | with_reducible assumption | exact ⟨by omega, by omega⟩) (by first | exact hR _ _ | with_reducible assumption | exact ⟨by omega, by omega⟩) (fun h12 => ?_) (fun h12 => ?_)
              · skip
                refine V_aload_n (pc := 132) C (dk k_Z_year 71 rfl) rfl ?_
                refine V_geti (pc := 133) (ji := 1) C (dk k_Z_year 72 rfl) fl_Z_81 kq_128 (by decide) rfl rfl ?_
                rw [gP.2.1]
                refine V_ifle (pc := 136) C (dk k_Z_year 73 rfl) 167 rfl (by first | exact hR _ _ | with_reducible assumption | exact ⟨by omega, by omega⟩) (fun h13 => ?_) (fun h13 => ?_)
                · skip
                  first | (have ea : actX π (yearX π x z i) z i = sellX π (yearX π x z i) (drw z i / 8 % pN π) := by (unfold actX; rw [if_neg (by omega), if_pos ⟨by omega, by assumption⟩])) | (have ea : actX π (yearX π x z i) z i = buyX π (yearX π x z i) (drw z i / 8 % pN π) := by (unfold actX; rw [if_neg (by omega), if_neg (fun q => by omega), if_pos ⟨by omega, by assumption⟩])) | (have ea : actX π (yearX π x z i) z i = (yearX π x z i) := if_pos (by omega)) | (have ea : actX π (yearX π x z i) z i = (yearX π x z i) := by (unfold actX; rw [if_neg (by omega), if_neg (fun q => by omega), if_neg (fun q => by omega)]))
                  rw [← ea] at hx5
                  refine V_aload_n (pc := 167) C (dk k_Z_year 88 rfl) rfl ?_
                  refine V_callV0r (pc := 168) C (dk k_Z_year 89 rfl) lk_Z_170 cm_Z_passes vm_Z_passes (c_Z_passes _ _ _ π (actX π (yearX π x z i) z i) (j + i + 1) (gP.fr hf5) ok hx5 ((act_ok (z := z) (k := (i : Int)) ok yk.d).ok (by omega) (by omega)) (by omega)) kq_128 rfl rfl rfl (Nat.le_of_ble_eq_true rfl) (Rm.mono hRm (by decide) (by decide)) (fun τ2 hq2 => ?_)
                  refine V_R (fun hR => ?_)
                  refine V_iinc (pc := 171) C (dk k_Z_year 90 rfl) (by rw [hXN]; decide) rfl ?_
                  dsimp only [lst, lstL, lz, kill, Fin.val, Nat.reduceAdd]
                  refine V_goto (pc := 174) C (dk k_Z_year 91 rfl) 39 rfl ?_
                  refine V_fg 5 ?_
                  refine V_fg 7 ?_
                  refine V_fg 8 ?_
                  dsimp only [fg]
                  exact ih (i + 1, τ2) ⟨by dsimp only; omega, hq2.1, (hfr.tr hf5).tr hq2.2⟩ (by dsimp only; omega)
                · skip
                  refine V_iload (pc := 139) C (dk k_Z_year 74 rfl) rfl ?_
                  refine V_bipush (pc := 141) (n' := 8) C (dk k_Z_year 75 rfl) rfl ?_
                  refine V_irem (pc := 143) C (dk k_Z_year 76 rfl) ⟨by omega, by omega⟩ ⟨by omega, by omega⟩ (by omega) (by omega) ?_
                  refine V_iconst (pc := 144) C (dk k_Z_year 77 rfl) rfl ?_
                  refine V_iconst (pc := 145) C (dk k_Z_year 78 rfl) rfl ?_
                  refine V_callS (pc := 146) C (dk k_Z_year 79 rfl) lk_Z_93 cm_Z_in sm_Z_in (c_Z_in _ _ _ (drw z i % 8) 4 5 ⟨by omega, by omega⟩ ⟨by decide, by decide⟩ ⟨by decide, by decide⟩) rfl rfl (Nat.le_of_ble_eq_true rfl) (Rm.mono hRm (by decide) (by decide)) ?_
                  refine V_ifeqB (pc := 149) C (dk k_Z_year 80 rfl) 167 rfl (fun h14 => ?_) (fun h14 => ?_)
                  · skip
                    first | (have ea : actX π (yearX π x z i) z i = sellX π (yearX π x z i) (drw z i / 8 % pN π) := by (unfold actX; rw [if_neg (by omega), if_pos ⟨by omega, by assumption⟩])) | (have ea : actX π (yearX π x z i) z i = buyX π (yearX π x z i) (drw z i / 8 % pN π) := by (unfold actX; rw [if_neg (by omega), if_neg (fun q => by omega), if_pos ⟨by omega, by assumption⟩])) | (have ea : actX π (yearX π x z i) z i = (yearX π x z i) := if_pos (by omega)) | (have ea : actX π (yearX π x z i) z i = (yearX π x z i) := by (unfold actX; rw [if_neg (by omega), if_neg (fun q => by omega), if_neg (fun q => by omega)]))
                    rw [← ea] at hx5
                    refine V_aload_n (pc := 167) C (dk k_Z_year 88 rfl) rfl ?_
                    refine V_callV0r (pc := 168) C (dk k_Z_year 89 rfl) lk_Z_170 cm_Z_passes vm_Z_passes (c_Z_passes _ _ _ π (actX π (yearX π x z i) z i) (j + i + 1) (gP.fr hf5) ok hx5 ((act_ok (z := z) (k := (i : Int)) ok yk.d).ok (by omega) (by omega)) (by omega)) kq_128 rfl rfl rfl (Nat.le_of_ble_eq_true rfl) (Rm.mono hRm (by decide) (by decide)) (fun τ2 hq2 => ?_)
                    refine V_R (fun hR => ?_)
                    refine V_iinc (pc := 171) C (dk k_Z_year 90 rfl) (by rw [hXN]; decide) rfl ?_
                    dsimp only [lst, lstL, lz, kill, Fin.val, Nat.reduceAdd]
                    refine V_goto (pc := 174) C (dk k_Z_year 91 rfl) 39 rfl ?_
                    refine V_fg 5 ?_
                    refine V_fg 7 ?_
                    refine V_fg 8 ?_
                    dsimp only [fg]
                    exact ih (i + 1, τ2) ⟨by dsimp only; omega, hq2.1, (hfr.tr hf5).tr hq2.2⟩ (by dsimp only; omega)
                  · skip
                    refine V_aload_n (pc := 152) C (dk k_Z_year 81 rfl) rfl ?_
                    refine V_iload (pc := 153) C (dk k_Z_year 82 rfl) rfl ?_
                    refine V_callV (pc := 155) C (dk k_Z_year 83 rfl) lk_Z_200 cm_Z_mayBuy vm_Z_mayBuy (c_Z_mayBuy _ _ _ π (yearX π x z i) (j + i) (drw z i / 8 % pN π) gP ok hx1 yk (by omega) t0 t1) kq_128 rfl rfl rfl (Nat.le_of_ble_eq_true rfl) (Rm.mono hRm (by decide) (by decide)) ?_
                    refine V_ifeqB (pc := 158) C (dk k_Z_year 84 rfl) 167 rfl (fun h15 => ?_) (fun h15 => ?_)
                    · skip
                      first | (have ea : actX π (yearX π x z i) z i = sellX π (yearX π x z i) (drw z i / 8 % pN π) := by (unfold actX; rw [if_neg (by omega), if_pos ⟨by omega, by assumption⟩])) | (have ea : actX π (yearX π x z i) z i = buyX π (yearX π x z i) (drw z i / 8 % pN π) := by (unfold actX; rw [if_neg (by omega), if_neg (fun q => by omega), if_pos ⟨by omega, by assumption⟩])) | (have ea : actX π (yearX π x z i) z i = (yearX π x z i) := if_pos (by omega)) | (have ea : actX π (yearX π x z i) z i = (yearX π x z i) := by (unfold actX; rw [if_neg (by omega), if_neg (fun q => by omega), if_neg (fun q => by omega)]))
                      rw [← ea] at hx5
                      refine V_aload_n (pc := 167) C (dk k_Z_year 88 rfl) rfl ?_
                      refine V_callV0r (pc := 168) C (dk k_Z_year 89 rfl) lk_Z_170 cm_Z_passes vm_Z_passes (c_Z_passes _ _ _ π (actX π (yearX π x z i) z i) (j + i + 1) (gP.fr hf5) ok hx5 ((act_ok (z := z) (k := (i : Int)) ok yk.d).ok (by omega) (by omega)) (by omega)) kq_128 rfl rfl rfl (Nat.le_of_ble_eq_true rfl) (Rm.mono hRm (by decide) (by decide)) (fun τ2 hq2 => ?_)
                      refine V_R (fun hR => ?_)
                      refine V_iinc (pc := 171) C (dk k_Z_year 90 rfl) (by rw [hXN]; decide) rfl ?_
                      dsimp only [lst, lstL, lz, kill, Fin.val, Nat.reduceAdd]
                      refine V_goto (pc := 174) C (dk k_Z_year 91 rfl) 39 rfl ?_
                      refine V_fg 5 ?_
                      refine V_fg 7 ?_
                      refine V_fg 8 ?_
                      dsimp only [fg]
                      exact ih (i + 1, τ2) ⟨by dsimp only; omega, hq2.1, (hfr.tr hf5).tr hq2.2⟩ (by dsimp only; omega)
                    · skip
                      refine V_aload_n (pc := 161) C (dk k_Z_year 85 rfl) rfl ?_
                      refine V_iload (pc := 162) C (dk k_Z_year 86 rfl) rfl ?_
                      refine V_callV0r (pc := 164) C (dk k_Z_year 87 rfl) lk_Z_203 cm_Z_buys vm_Z_buys (c_Z_buys _ _ _ π (yearX π x z i) (j + i) (drw z i / 8 % pN π) gP ok hx1 yk (by omega) t0 t1 (by omega)) kq_128 rfl rfl rfl (Nat.le_of_ble_eq_true rfl) (Rm.mono hRm (by decide) (by decide)) (fun τ3 hq3 => ?_)
                      refine V_R (fun hR => ?_)
                      obtain ⟨hx5, hf5⟩ := hq3
                      first | (have ea : actX π (yearX π x z i) z i = sellX π (yearX π x z i) (drw z i / 8 % pN π) := by (unfold actX; rw [if_neg (by omega), if_pos ⟨by omega, by assumption⟩])) | (have ea : actX π (yearX π x z i) z i = buyX π (yearX π x z i) (drw z i / 8 % pN π) := by (unfold actX; rw [if_neg (by omega), if_neg (fun q => by omega), if_pos ⟨by omega, by assumption⟩])) | (have ea : actX π (yearX π x z i) z i = (yearX π x z i) := if_pos (by omega)) | (have ea : actX π (yearX π x z i) z i = (yearX π x z i) := by (unfold actX; rw [if_neg (by omega), if_neg (fun q => by omega), if_neg (fun q => by omega)]))
                      rw [← ea] at hx5
                      refine V_aload_n (pc := 167) C (dk k_Z_year 88 rfl) rfl ?_
                      refine V_callV0r (pc := 168) C (dk k_Z_year 89 rfl) lk_Z_170 cm_Z_passes vm_Z_passes (c_Z_passes _ _ _ π (actX π (yearX π x z i) z i) (j + i + 1) (gP.fr hf5) ok hx5 ((act_ok (z := z) (k := (i : Int)) ok yk.d).ok (by omega) (by omega)) (by omega)) kq_128 rfl rfl rfl (Nat.le_of_ble_eq_true rfl) (Rm.mono hRm (by decide) (by decide)) (fun τ2 hq2 => ?_)
                      refine V_R (fun hR => ?_)
                      refine V_iinc (pc := 171) C (dk k_Z_year 90 rfl) (by rw [hXN]; decide) rfl ?_
                      dsimp only [lst, lstL, lz, kill, Fin.val, Nat.reduceAdd]
                      refine V_goto (pc := 174) C (dk k_Z_year 91 rfl) 39 rfl ?_
                      refine V_fg 5 ?_
                      refine V_fg 7 ?_
                      refine V_fg 8 ?_
                      dsimp only [fg]
                      exact ih (i + 1, τ2) ⟨by dsimp only; omega, hq2.1, (hfr.tr hf5).tr hq2.2⟩ (by dsimp only; omega)
              · skip
                refine V_aload_n (pc := 114) C (dk k_Z_year 63 rfl) rfl ?_
                refine V_iload (pc := 115) C (dk k_Z_year 64 rfl) rfl ?_
                refine V_callV (pc := 117) C (dk k_Z_year 65 rfl) lk_Z_190 cm_Z_maySell vm_Z_maySell (c_Z_maySell _ _ _ π (yearX π x z i) (j + i) (drw z i / 8 % pN π) gP ok hx1 yk (by omega) t0 t1) kq_128 rfl rfl rfl (Nat.le_of_ble_eq_true rfl) (Rm.mono hRm (by decide) (by decide)) ?_
                refine V_ifeqB (pc := 120) C (dk k_Z_year 66 rfl) 132 rfl (fun h16 => ?_) (fun h16 => ?_)
                · skip
                  refine V_aload_n (pc := 132) C (dk k_Z_year 71 rfl) rfl ?_
                  refine V_geti (pc := 133) (ji := 1) C (dk k_Z_year 72 rfl) fl_Z_81 kq_128 (by decide) rfl rfl ?_
                  rw [gP.2.1]
                  refine V_ifle (pc := 136) C (dk k_Z_year 73 rfl) 167 rfl (by first | exact hR _ _ | with_reducible assumption | exact ⟨by omega, by omega⟩) (fun h17 => ?_) (fun h17 => ?_)
                  · skip
                    first | (have ea : actX π (yearX π x z i) z i = sellX π (yearX π x z i) (drw z i / 8 % pN π) := by (unfold actX; rw [if_neg (by omega), if_pos ⟨by omega, by assumption⟩])) | (have ea : actX π (yearX π x z i) z i = buyX π (yearX π x z i) (drw z i / 8 % pN π) := by (unfold actX; rw [if_neg (by omega), if_neg (fun q => by omega), if_pos ⟨by omega, by assumption⟩])) | (have ea : actX π (yearX π x z i) z i = (yearX π x z i) := if_pos (by omega)) | (have ea : actX π (yearX π x z i) z i = (yearX π x z i) := by (unfold actX; rw [if_neg (by omega), if_neg (fun q => by omega), if_neg (fun q => by omega)]))
                    rw [← ea] at hx5
                    refine V_aload_n (pc := 167) C (dk k_Z_year 88 rfl) rfl ?_
                    refine V_callV0r (pc := 168) C (dk k_Z_year 89 rfl) lk_Z_170 cm_Z_passes vm_Z_passes (c_Z_passes _ _ _ π (actX π (yearX π x z i) z i) (j + i + 1) (gP.fr hf5) ok hx5 ((act_ok (z := z) (k := (i : Int)) ok yk.d).ok (by omega) (by omega)) (by omega)) kq_128 rfl rfl rfl (Nat.le_of_ble_eq_true rfl) (Rm.mono hRm (by decide) (by decide)) (fun τ2 hq2 => ?_)
                    refine V_R (fun hR => ?_)
                    refine V_iinc (pc := 171) C (dk k_Z_year 90 rfl) (by rw [hXN]; decide) rfl ?_
                    dsimp only [lst, lstL, lz, kill, Fin.val, Nat.reduceAdd]
                    refine V_goto (pc := 174) C (dk k_Z_year 91 rfl) 39 rfl ?_
                    refine V_fg 5 ?_
                    refine V_fg 7 ?_
                    refine V_fg 8 ?_
                    dsimp only [fg]
                    exact ih (i + 1, τ2) ⟨by dsimp only; omega, hq2.1, (hfr.tr hf5).tr hq2.2⟩ (by dsimp only; omega)
                  · skip
                    refine V_iload (pc := 139) C (dk k_Z_year 74 rfl) rfl ?_
                    refine V_bipush (pc := 141) (n' := 8) C (dk k_Z_year 75 rfl) rfl ?_
                    refine V_irem (pc := 143) C (dk k_Z_year 76 rfl) ⟨by omega, by omega⟩ ⟨by omega, by omega⟩ (by omega) (by omega) ?_
                    refine V_iconst (pc := 144) C (dk k_Z_year 77 rfl) rfl ?_
                    refine V_iconst (pc := 145) C (dk k_Z_year 78 rfl) rfl ?_
                    refine V_callS (pc := 146) C (dk k_Z_year 79 rfl) lk_Z_93 cm_Z_in sm_Z_in (c_Z_in _ _ _ (drw z i % 8) 4 5 ⟨by omega, by omega⟩ ⟨by decide, by decide⟩ ⟨by decide, by decide⟩) rfl rfl (Nat.le_of_ble_eq_true rfl) (Rm.mono hRm (by decide) (by decide)) ?_
                    refine V_ifeqB (pc := 149) C (dk k_Z_year 80 rfl) 167 rfl (fun h18 => ?_) (fun h18 => ?_)
                    · skip
                      first | (have ea : actX π (yearX π x z i) z i = sellX π (yearX π x z i) (drw z i / 8 % pN π) := by (unfold actX; rw [if_neg (by omega), if_pos ⟨by omega, by assumption⟩])) | (have ea : actX π (yearX π x z i) z i = buyX π (yearX π x z i) (drw z i / 8 % pN π) := by (unfold actX; rw [if_neg (by omega), if_neg (fun q => by omega), if_pos ⟨by omega, by assumption⟩])) | (have ea : actX π (yearX π x z i) z i = (yearX π x z i) := if_pos (by omega)) | (have ea : actX π (yearX π x z i) z i = (yearX π x z i) := by (unfold actX; rw [if_neg (by omega), if_neg (fun q => by omega), if_neg (fun q => by omega)]))
                      rw [← ea] at hx5
                      refine V_aload_n (pc := 167) C (dk k_Z_year 88 rfl) rfl ?_
                      refine V_callV0r (pc := 168) C (dk k_Z_year 89 rfl) lk_Z_170 cm_Z_passes vm_Z_passes (c_Z_passes _ _ _ π (actX π (yearX π x z i) z i) (j + i + 1) (gP.fr hf5) ok hx5 ((act_ok (z := z) (k := (i : Int)) ok yk.d).ok (by omega) (by omega)) (by omega)) kq_128 rfl rfl rfl (Nat.le_of_ble_eq_true rfl) (Rm.mono hRm (by decide) (by decide)) (fun τ2 hq2 => ?_)
                      refine V_R (fun hR => ?_)
                      refine V_iinc (pc := 171) C (dk k_Z_year 90 rfl) (by rw [hXN]; decide) rfl ?_
                      dsimp only [lst, lstL, lz, kill, Fin.val, Nat.reduceAdd]
                      refine V_goto (pc := 174) C (dk k_Z_year 91 rfl) 39 rfl ?_
                      refine V_fg 5 ?_
                      refine V_fg 7 ?_
                      refine V_fg 8 ?_
                      dsimp only [fg]
                      exact ih (i + 1, τ2) ⟨by dsimp only; omega, hq2.1, (hfr.tr hf5).tr hq2.2⟩ (by dsimp only; omega)
                    · skip
                      refine V_aload_n (pc := 152) C (dk k_Z_year 81 rfl) rfl ?_
                      refine V_iload (pc := 153) C (dk k_Z_year 82 rfl) rfl ?_
                      refine V_callV (pc := 155) C (dk k_Z_year 83 rfl) lk_Z_200 cm_Z_mayBuy vm_Z_mayBuy (c_Z_mayBuy _ _ _ π (yearX π x z i) (j + i) (drw z i / 8 % pN π) gP ok hx1 yk (by omega) t0 t1) kq_128 rfl rfl rfl (Nat.le_of_ble_eq_true rfl) (Rm.mono hRm (by decide) (by decide)) ?_
                      refine V_ifeqB (pc := 158) C (dk k_Z_year 84 rfl) 167 rfl (fun h19 => ?_) (fun h19 => ?_)
                      · skip
                        first | (have ea : actX π (yearX π x z i) z i = sellX π (yearX π x z i) (drw z i / 8 % pN π) := by (unfold actX; rw [if_neg (by omega), if_pos ⟨by omega, by assumption⟩])) | (have ea : actX π (yearX π x z i) z i = buyX π (yearX π x z i) (drw z i / 8 % pN π) := by (unfold actX; rw [if_neg (by omega), if_neg (fun q => by omega), if_pos ⟨by omega, by assumption⟩])) | (have ea : actX π (yearX π x z i) z i = (yearX π x z i) := if_pos (by omega)) | (have ea : actX π (yearX π x z i) z i = (yearX π x z i) := by (unfold actX; rw [if_neg (by omega), if_neg (fun q => by omega), if_neg (fun q => by omega)]))
                        rw [← ea] at hx5
                        refine V_aload_n (pc := 167) C (dk k_Z_year 88 rfl) rfl ?_
                        refine V_callV0r (pc := 168) C (dk k_Z_year 89 rfl) lk_Z_170 cm_Z_passes vm_Z_passes (c_Z_passes _ _ _ π (actX π (yearX π x z i) z i) (j + i + 1) (gP.fr hf5) ok hx5 ((act_ok (z := z) (k := (i : Int)) ok yk.d).ok (by omega) (by omega)) (by omega)) kq_128 rfl rfl rfl (Nat.le_of_ble_eq_true rfl) (Rm.mono hRm (by decide) (by decide)) (fun τ2 hq2 => ?_)
                        refine V_R (fun hR => ?_)
                        refine V_iinc (pc := 171) C (dk k_Z_year 90 rfl) (by rw [hXN]; decide) rfl ?_
                        dsimp only [lst, lstL, lz, kill, Fin.val, Nat.reduceAdd]
                        refine V_goto (pc := 174) C (dk k_Z_year 91 rfl) 39 rfl ?_
                        refine V_fg 5 ?_
                        refine V_fg 7 ?_
                        refine V_fg 8 ?_
                        dsimp only [fg]
                        exact ih (i + 1, τ2) ⟨by dsimp only; omega, hq2.1, (hfr.tr hf5).tr hq2.2⟩ (by dsimp only; omega)
                      · skip
                        refine V_aload_n (pc := 161) C (dk k_Z_year 85 rfl) rfl ?_
                        refine V_iload (pc := 162) C (dk k_Z_year 86 rfl) rfl ?_
                        refine V_callV0r (pc := 164) C (dk k_Z_year 87 rfl) lk_Z_203 cm_Z_buys vm_Z_buys (c_Z_buys _ _ _ π (yearX π x z i) (j + i) (drw z i / 8 % pN π) gP ok hx1 yk (by omega) t0 t1 (by omega)) kq_128 rfl rfl rfl (Nat.le_of_ble_eq_true rfl) (Rm.mono hRm (by decide) (by decide)) (fun τ3 hq3 => ?_)
                        refine V_R (fun hR => ?_)
                        obtain ⟨hx5, hf5⟩ := hq3
                        first | (have ea : actX π (yearX π x z i) z i = sellX π (yearX π x z i) (drw z i / 8 % pN π) := by (unfold actX; rw [if_neg (by omega), if_pos ⟨by omega, by assumption⟩])) | (have ea : actX π (yearX π x z i) z i = buyX π (yearX π x z i) (drw z i / 8 % pN π) := by (unfold actX; rw [if_neg (by omega), if_neg (fun q => by omega), if_pos ⟨by omega, by assumption⟩])) | (have ea : actX π (yearX π x z i) z i = (yearX π x z i) := if_pos (by omega)) | (have ea : actX π (yearX π x z i) z i = (yearX π x z i) := by (unfold actX; rw [if_neg (by omega), if_neg (fun q => by omega), if_neg (fun q => by omega)]))
                        rw [← ea] at hx5
                        refine V_aload_n (pc := 167) C (dk k_Z_year 88 rfl) rfl ?_
                        refine V_callV0r (pc := 168) C (dk k_Z_year 89 rfl) lk_Z_170 cm_Z_passes vm_Z_passes (c_Z_passes _ _ _ π (actX π (yearX π x z i) z i) (j + i + 1) (gP.fr hf5) ok hx5 ((act_ok (z := z) (k := (i : Int)) ok yk.d).ok (by omega) (by omega)) (by omega)) kq_128 rfl rfl rfl (Nat.le_of_ble_eq_true rfl) (Rm.mono hRm (by decide) (by decide)) (fun τ2 hq2 => ?_)
                        refine V_R (fun hR => ?_)
                        refine V_iinc (pc := 171) C (dk k_Z_year 90 rfl) (by rw [hXN]; decide) rfl ?_
                        dsimp only [lst, lstL, lz, kill, Fin.val, Nat.reduceAdd]
                        refine V_goto (pc := 174) C (dk k_Z_year 91 rfl) 39 rfl ?_
                        refine V_fg 5 ?_
                        refine V_fg 7 ?_
                        refine V_fg 8 ?_
                        dsimp only [fg]
                        exact ih (i + 1, τ2) ⟨by dsimp only; omega, hq2.1, (hfr.tr hf5).tr hq2.2⟩ (by dsimp only; omega)
                · skip
                  refine V_aload_n (pc := 123) C (dk k_Z_year 67 rfl) rfl ?_
                  refine V_iload (pc := 124) C (dk k_Z_year 68 rfl) rfl ?_
                  refine V_callV0r (pc := 126) C (dk k_Z_year 69 rfl) lk_Z_196 cm_Z_sells vm_Z_sells (c_Z_sells _ _ _ π (yearX π x z i) (j + i) (drw z i / 8 % pN π) gP ok hx1 yk (by omega) t0 t1 (by omega)) kq_128 rfl rfl rfl (Nat.le_of_ble_eq_true rfl) (Rm.mono hRm (by decide) (by decide)) (fun τ3 hq3 => ?_)
                  refine V_R (fun hR => ?_)
                  obtain ⟨hx5, hf5⟩ := hq3
                  refine V_goto (pc := 129) C (dk k_Z_year 70 rfl) 167 rfl ?_
                  first | (have ea : actX π (yearX π x z i) z i = sellX π (yearX π x z i) (drw z i / 8 % pN π) := by (unfold actX; rw [if_neg (by omega), if_pos ⟨by omega, by assumption⟩])) | (have ea : actX π (yearX π x z i) z i = buyX π (yearX π x z i) (drw z i / 8 % pN π) := by (unfold actX; rw [if_neg (by omega), if_neg (fun q => by omega), if_pos ⟨by omega, by assumption⟩])) | (have ea : actX π (yearX π x z i) z i = (yearX π x z i) := if_pos (by omega)) | (have ea : actX π (yearX π x z i) z i = (yearX π x z i) := by (unfold actX; rw [if_neg (by omega), if_neg (fun q => by omega), if_neg (fun q => by omega)]))
                  rw [← ea] at hx5
                  refine V_aload_n (pc := 167) C (dk k_Z_year 88 rfl) rfl ?_
                  refine V_callV0r (pc := 168) C (dk k_Z_year 89 rfl) lk_Z_170 cm_Z_passes vm_Z_passes (c_Z_passes _ _ _ π (actX π (yearX π x z i) z i) (j + i + 1) (gP.fr hf5) ok hx5 ((act_ok (z := z) (k := (i : Int)) ok yk.d).ok (by omega) (by omega)) (by omega)) kq_128 rfl rfl rfl (Nat.le_of_ble_eq_true rfl) (Rm.mono hRm (by decide) (by decide)) (fun τ2 hq2 => ?_)
                  refine V_R (fun hR => ?_)
                  refine V_iinc (pc := 171) C (dk k_Z_year 90 rfl) (by rw [hXN]; decide) rfl ?_
                  dsimp only [lst, lstL, lz, kill, Fin.val, Nat.reduceAdd]
                  refine V_goto (pc := 174) C (dk k_Z_year 91 rfl) 39 rfl ?_
                  refine V_fg 5 ?_
                  refine V_fg 7 ?_
                  refine V_fg 8 ?_
                  dsimp only [fg]
                  exact ih (i + 1, τ2) ⟨by dsimp only; omega, hq2.1, (hfr.tr hf5).tr hq2.2⟩ (by dsimp only; omega)
          · skip
            refine V_iconst (pc := 82) C (dk k_Z_year 46 rfl) rfl ?_
            refine V_goto (pc := 83) C (dk k_Z_year 47 rfl) 96 rfl ?_
            refine V_istore (pc := 96) C (dk k_Z_year 54 rfl) (by rw [hXN]; decide) ?_
            dsimp only [lst, lstL, lz, kill, Fin.val, Nat.reduceAdd]
            refine V_aload_n (pc := 98) C (dk k_Z_year 55 rfl) rfl ?_
            refine V_geti (pc := 99) (ji := 1) C (dk k_Z_year 56 rfl) fl_Z_81 kq_128 (by decide) rfl rfl ?_
            rw [gP.2.1]
            refine V_ifle (pc := 102) C (dk k_Z_year 57 rfl) 132 rfl (by first | exact hR _ _ | with_reducible assumption | exact ⟨by omega, by omega⟩) (fun h20 => ?_) (fun h20 => ?_)
            · skip
              refine V_aload_n (pc := 132) C (dk k_Z_year 71 rfl) rfl ?_
              refine V_geti (pc := 133) (ji := 1) C (dk k_Z_year 72 rfl) fl_Z_81 kq_128 (by decide) rfl rfl ?_
              rw [gP.2.1]
              refine V_ifle (pc := 136) C (dk k_Z_year 73 rfl) 167 rfl (by first | exact hR _ _ | with_reducible assumption | exact ⟨by omega, by omega⟩) (fun h21 => ?_) (fun h21 => ?_)
              · skip
                first | (have ea : actX π (yearX π x z i) z i = sellX π (yearX π x z i) (drw z i / 8 % pN π) := by (unfold actX; rw [if_neg (by omega), if_pos ⟨by omega, by assumption⟩])) | (have ea : actX π (yearX π x z i) z i = buyX π (yearX π x z i) (drw z i / 8 % pN π) := by (unfold actX; rw [if_neg (by omega), if_neg (fun q => by omega), if_pos ⟨by omega, by assumption⟩])) | (have ea : actX π (yearX π x z i) z i = (yearX π x z i) := if_pos (by omega)) | (have ea : actX π (yearX π x z i) z i = (yearX π x z i) := by (unfold actX; rw [if_neg (by omega), if_neg (fun q => by omega), if_neg (fun q => by omega)]))
                rw [← ea] at hx5
                refine V_aload_n (pc := 167) C (dk k_Z_year 88 rfl) rfl ?_
                refine V_callV0r (pc := 168) C (dk k_Z_year 89 rfl) lk_Z_170 cm_Z_passes vm_Z_passes (c_Z_passes _ _ _ π (actX π (yearX π x z i) z i) (j + i + 1) (gP.fr hf5) ok hx5 ((act_ok (z := z) (k := (i : Int)) ok yk.d).ok (by omega) (by omega)) (by omega)) kq_128 rfl rfl rfl (Nat.le_of_ble_eq_true rfl) (Rm.mono hRm (by decide) (by decide)) (fun τ2 hq2 => ?_)
                refine V_R (fun hR => ?_)
                refine V_iinc (pc := 171) C (dk k_Z_year 90 rfl) (by rw [hXN]; decide) rfl ?_
                dsimp only [lst, lstL, lz, kill, Fin.val, Nat.reduceAdd]
                refine V_goto (pc := 174) C (dk k_Z_year 91 rfl) 39 rfl ?_
                refine V_fg 5 ?_
                refine V_fg 7 ?_
                refine V_fg 8 ?_
                dsimp only [fg]
                exact ih (i + 1, τ2) ⟨by dsimp only; omega, hq2.1, (hfr.tr hf5).tr hq2.2⟩ (by dsimp only; omega)
              · skip
                exfalso; omega
            · skip
              exfalso; omega
      · skip
        refine V_iconst (pc := 30) C (dk k_Z_year 15 rfl) rfl ?_
        refine V_iret (pc := 31) C E (dk k_Z_year 16 rfl) ?_
        rw [show o_year π x z n k = -1 from if_neg (by omega)]
        exact ⟨rfl, hC, Fm.rf σ⟩

def i_Z_whims : List (Nat × (Instr × Nat)) := [(0, (.aload_n 0, 1)), (1, (.iload_n 1, 1)), (2, (.invokevirtual 180, 3)), (5, (.ifCond .eq 45, 3)), (8, (.iload_n 2, 1)), (9, (.iconst 0, 1)), (10, (.bipush 8, 2)), (12, (.invokestatic 93, 3)), (15, (.ifCond .eq 35, 3)), (18, (.iload_n 3, 1)), (19, (.iconst 0, 1)), (20, (.sipush 999, 3)), (23, (.invokestatic 93, 3)), (26, (.ifCond .eq 24, 3)), (29, (.iload 4, 2)), (31, (.iconst 0, 1)), (32, (.bipush 10, 2)), (34, (.invokestatic 93, 3)), (37, (.ifCond .eq 13, 3)), (40, (.iload 5, 2)), (42, (.iconst 0, 1)), (43, (.iconst 1, 1)), (44, (.invokestatic 93, 3)), (47, (.ifCond .ne 5, 3)), (50, (.iconst (-1), 1)), (51, (.ireturn, 1)), (52, (.aload_n 0, 1)), (53, (.getfield 31, 3)), (56, (.iload_n 1, 1)), (57, (.iaload, 1)), (58, (.ifCond .eq 6, 3)), (61, (.bipush (-2), 2)), (63, (.ireturn, 1)), (64, (.lconst 0, 1)), (65, (.lstore 6, 2)), (67, (.lconst 1, 1)), (68, (.lstore 8, 2)), (70, (.iconst 0, 1)), (71, (.istore 10, 2)), (73, (.iload 10, 2)), (75, (.iload_n 2, 1)), (76, (.if_icmp .ge 17, 3)), (79, (.lload 8, 2)), (81, (.ldc2_w 253, 3)), (84, (.lmul, 1)), (85, (.lstore 8, 2)), (87, (.iinc 10 1, 3)), (90, (.goto (-17), 3)), (93, (.iconst 0, 1)), (94, (.istore 10, 2)), (96, (.iload 10, 2)), (98, (.iconst 1, 1)), (99, (.iload_n 2, 1)), (100, (.ishl, 1)), (101, (.if_icmp .ge 125, 3)), (104, (.lconst 1, 1)), (105, (.lstore 11, 2)), (107, (.iconst 0, 1)), (108, (.istore 13, 2)), (110, (.iconst 0, 1)), (111, (.istore 14, 2)), (113, (.iload 14, 2)), (115, (.iload_n 2, 1)), (116, (.if_icmp .ge 88, 3)), (119, (.lload 11, 2)), (121, (.iload 10, 2)), (123, (.iload 14, 2)), (125, (.invokestatic 221, 3)), (128, (.ifCond .eq 9, 3)), (131, (.iload 4, 2)), (133, (.i2l, 1)), (134, (.goto 9, 3)), (137, (.bipush 10, 2)), (139, (.iload 4, 2)), (141, (.isub, 1)), (142, (.i2l, 1)), (143, (.lmul, 1)), (144, (.lstore 11, 2)), (146, (.iload 10, 2)), (148, (.iload 14, 2)), (150, (.invokestatic 221, 3)), (153, (.ifCond .eq 7, 3)), (156, (.iconst 0, 1)), (157, (.goto 21, 3)), (160, (.aload_n 0, 1)), (161, (.getfield 28, 3)), (164, (.iload_n 1, 1)), (165, (.iaload, 1)), (166, (.aload_n 0, 1)), (167, (.aload_n 0, 1)), (168, (.getfield 150, 3)), (171, (.iload 14, 2)), (173, (.iadd, 1)), (174, (.invokevirtual 162, 3)), (177, (.imul, 1)), (178, (.istore 15, 2)), (180, (.iload 13, 2)), (182, (.ifCond .ne 9, 3)), (185, (.iload 15, 2)), (187, (.iload_n 3, 1)), (188, (.if_icmp .lt 7, 3)), (191, (.iconst 1, 1)), (192, (.goto 4, 3)), (195, (.iconst 0, 1)), (196, (.istore 13, 2)), (198, (.iinc 14 1, 3)), (201, (.goto (-88), 3)), (204, (.lload 6, 2)), (206, (.iload 13, 2)), (208, (.ifCond .eq 8, 3)), (211, (.lload 11, 2)), (213, (.goto 4, 3)), (216, (.lconst 0, 1)), (217, (.ladd, 1)), (218, (.lstore 6, 2)), (220, (.iinc 10 1, 3)), (223, (.goto (-127), 3)), (226, (.lload 6, 2)), (228, (.lload 8, 2)), (230, (.invokestatic 255, 3)), (233, (.lstore 10, 2)), (235, (.iload 5, 2)), (237, (.ifCond .ne 11, 3)), (240, (.lload 6, 2)), (242, (.lload 10, 2)), (244, (.ldiv, 1)), (245, (.goto 8, 3)), (248, (.lload 8, 2)), (250, (.lload 10, 2)), (252, (.ldiv, 1)), (253, (.l2i, 1)), (254, (.ireturn, 1))]
theorem k_Z_whims : i_Z_whims.all (fun q => decide (decode b_Z_whims q.1 = .ok q.2)) = true := by decide +kernel

set_option maxHeartbeats 1000000 in
set_option maxRecDepth 20000 in
theorem c_Z_whims (l : Launch) (G : GE) (σ : Wd) (π : PL) (x : ST) (us ks : List ST) (lk : List (Int × (Int × Int))) (tx : List Int) (j : Int) (hC : MR σ π x us ks lk tx) (hV : VK π x us ks j) (hj : j ≤ 100) (t n m c k : Int) (ht : inR t) (hn : inR n) (hm : inR m) (hc : inR c) (hk : inR k) : Ct l G y_Z_whims b_Z_whims 16 (some (.int)) 2 43 [vR 128, vI t, vI n, vI m, vI c, vI k] σ (Dt (some (vI (o_whims π x t n m c k))) σ) := by
  refine Ct.of cm_Z_whims (Nat.le_of_ble_eq_true rfl) ?_
  intro X hXl hXG hXN hRm C E
  subst hXl; subst hXG
  have ⟨ht_1, ht_2⟩ := ht
  have ⟨hn_1, hn_2⟩ := hn
  have ⟨hm_1, hm_2⟩ := hm
  have ⟨hc_1, hc_2⟩ := hc
  have ⟨hk_1, hk_2⟩ := hk
  show V X 0 [some (vR 128), some (vI t), some (vI n), some (vI m), some (vI c), some (vI k), none, none, none, none, none, none, none, none, none, none] [] σ
  refine V_R (fun hR => ?_)
  obtain ⟨hπ, hx, hU, hK, hl, hT⟩ := id hC
  obtain ⟨ok, xk, usk, ksk, ks2⟩ := id hV
  have hπ0 := hπ
  obtain ⟨e0, e1, e2, e3, eT, eX⟩ := hπ
  have ⟨k1, k2, k3, k4, k5, k6, kT, kX⟩ := ok
  have hx0 := hx
  obtain ⟨f0, f1, fQ, fT⟩ := hx
  have ⟨x1, x2, x3, x4, xQ, xT⟩ := xk
  refine V_aload_n (pc := 0) C (dk k_Z_whims 0 rfl) rfl ?_
  refine V_iload_n (pc := 1) C (dk k_Z_whims 1 rfl) rfl ?_
  refine V_callV (pc := 2) C (dk k_Z_whims 2 rfl) lk_Z_180 cm_Z_isThing vm_Z_isThing (c_Z_isThing _ _ _ π t hπ0 ok ht) kq_128 rfl rfl rfl (Nat.le_of_ble_eq_true rfl) (Rm.mono hRm (by decide) (by decide)) ?_
  refine V_ifeqB (pc := 5) C (dk k_Z_whims 3 rfl) 50 rfl (fun h1 => ?_) (fun h1 => ?_)
  · skip
    refine V_iconst (pc := 50) C (dk k_Z_whims 24 rfl) rfl ?_
    refine V_iret (pc := 51) C E (dk k_Z_whims 25 rfl) ?_
    exact ⟨by unfold o_whims; rw [if_neg (by omega)], rfl⟩
  · skip
    refine V_iload_n (pc := 8) C (dk k_Z_whims 4 rfl) rfl ?_
    refine V_iconst (pc := 9) C (dk k_Z_whims 5 rfl) rfl ?_
    refine V_bipush (pc := 10) (n' := 8) C (dk k_Z_whims 6 rfl) rfl ?_
    refine V_callS (pc := 12) C (dk k_Z_whims 7 rfl) lk_Z_93 cm_Z_in sm_Z_in (c_Z_in _ _ _ n 0 8 hn ⟨by decide, by decide⟩ ⟨by decide, by decide⟩) rfl rfl (Nat.le_of_ble_eq_true rfl) (Rm.mono hRm (by decide) (by decide)) ?_
    refine V_ifeqB (pc := 15) C (dk k_Z_whims 8 rfl) 50 rfl (fun h2 => ?_) (fun h2 => ?_)
    · skip
      refine V_iconst (pc := 50) C (dk k_Z_whims 24 rfl) rfl ?_
      refine V_iret (pc := 51) C E (dk k_Z_whims 25 rfl) ?_
      exact ⟨by unfold o_whims; rw [if_neg (by omega)], rfl⟩
    · skip
      refine V_iload_n (pc := 18) C (dk k_Z_whims 9 rfl) rfl ?_
      refine V_iconst (pc := 19) C (dk k_Z_whims 10 rfl) rfl ?_
      refine V_sipush (pc := 20) (n' := 999) C (dk k_Z_whims 11 rfl) rfl ?_
      refine V_callS (pc := 23) C (dk k_Z_whims 12 rfl) lk_Z_93 cm_Z_in sm_Z_in (c_Z_in _ _ _ m 0 999 hm ⟨by decide, by decide⟩ ⟨by decide, by decide⟩) rfl rfl (Nat.le_of_ble_eq_true rfl) (Rm.mono hRm (by decide) (by decide)) ?_
      refine V_ifeqB (pc := 26) C (dk k_Z_whims 13 rfl) 50 rfl (fun h3 => ?_) (fun h3 => ?_)
      · skip
        refine V_iconst (pc := 50) C (dk k_Z_whims 24 rfl) rfl ?_
        refine V_iret (pc := 51) C E (dk k_Z_whims 25 rfl) ?_
        exact ⟨by unfold o_whims; rw [if_neg (by omega)], rfl⟩
      · skip
        refine V_iload (pc := 29) C (dk k_Z_whims 14 rfl) rfl ?_
        refine V_iconst (pc := 31) C (dk k_Z_whims 15 rfl) rfl ?_
        refine V_bipush (pc := 32) (n' := 10) C (dk k_Z_whims 16 rfl) rfl ?_
        refine V_callS (pc := 34) C (dk k_Z_whims 17 rfl) lk_Z_93 cm_Z_in sm_Z_in (c_Z_in _ _ _ c 0 10 hc ⟨by decide, by decide⟩ ⟨by decide, by decide⟩) rfl rfl (Nat.le_of_ble_eq_true rfl) (Rm.mono hRm (by decide) (by decide)) ?_
        refine V_ifeqB (pc := 37) C (dk k_Z_whims 18 rfl) 50 rfl (fun h4 => ?_) (fun h4 => ?_)
        · skip
          refine V_iconst (pc := 50) C (dk k_Z_whims 24 rfl) rfl ?_
          refine V_iret (pc := 51) C E (dk k_Z_whims 25 rfl) ?_
          exact ⟨by unfold o_whims; rw [if_neg (by omega)], rfl⟩
        · skip
          refine V_iload (pc := 40) C (dk k_Z_whims 19 rfl) rfl ?_
          refine V_iconst (pc := 42) C (dk k_Z_whims 20 rfl) rfl ?_
          refine V_iconst (pc := 43) C (dk k_Z_whims 21 rfl) rfl ?_
          refine V_callS (pc := 44) C (dk k_Z_whims 22 rfl) lk_Z_93 cm_Z_in sm_Z_in (c_Z_in _ _ _ k 0 1 hk ⟨by decide, by decide⟩ ⟨by decide, by decide⟩) rfl rfl (Nat.le_of_ble_eq_true rfl) (Rm.mono hRm (by decide) (by decide)) ?_
          refine V_ifneB (pc := 47) C (dk k_Z_whims 23 rfl) 52 rfl (fun h5 => ?_) (fun h5 => ?_)
          · skip
            obtain ⟨gN, gP⟩ := fT t (by omega) (by omega)
            refine V_aload_n (pc := 52) C (dk k_Z_whims 26 rfl) rfl ?_
            refine V_getr (pc := 53) (o2 := 136) C (dk k_Z_whims 27 rfl) fl_Z_31 kq_128 (by decide) rfl (by decide) rfl ?_
            refine V_iload_n (pc := 56) C (dk k_Z_whims 28 rfl) rfl ?_
            refine V_iald (pc := 57) C (dk k_Z_whims 29 rfl) kq_136 (by decide) (by omega) (by omega) ?_
            refine V_ifeq (pc := 58) C (dk k_Z_whims 30 rfl) 64 rfl (by first | exact hR _ _ | with_reducible assumption | exact ⟨by omega, by omega⟩) (fun h6 => ?_) (fun h6 => ?_)
            · skip
              obtain ⟨N, rfl⟩ : ∃ N : Nat, n = N := ⟨n.toNat, by omega⟩
              have ⟨z1, z2⟩ := p2_b (i := (N : Int)) (by omega) (by omega)
              have ⟨z3, z4⟩ := p2N (show N ≤ 8 by omega)
              have ⟨q1, q2⟩ := p10_b (n := (N : Int)) (by omega) (by omega)
              rw [Int.toNat_natCast] at q1 q2
              have ⟨nb0, nb1⟩ := nvr_b π x t m (c := c) (by omega) (by omega) N
              refine V_lconst (pc := 64) (n' := 0) C (dk k_Z_whims 33 rfl) rfl ?_
              refine V_lstore (pc := 65) C (dk k_Z_whims 34 rfl) (by rw [hXN]; decide) ?_
              dsimp only [lst, lstL, lz, kill, Fin.val, Nat.reduceAdd]
              refine V_lconst (pc := 67) (n' := 1) C (dk k_Z_whims 35 rfl) rfl ?_
              refine V_lstore (pc := 68) C (dk k_Z_whims 36 rfl) (by rw [hXN]; decide) ?_
              dsimp only [lst, lstL, lz, kill, Fin.val, Nat.reduceAdd]
              refine V_iconst (pc := 70) C (dk k_Z_whims 37 rfl) rfl ?_
              refine V_istore (pc := 71) C (dk k_Z_whims 38 rfl) (by rw [hXN]; decide) ?_
              dsimp only [lst, lstL, lz, kill, Fin.val, Nat.reduceAdd]
              refine V_eq (V_loop (fun i : Nat => i ≤ N) (fun i => [some (vR 128), some (vI t), some (vI (N : Int)), some (vI m), some (vI c), some (vI k), some (vL 0), none, some (vL (10 ^ i)), none, some (vI (i : Int)), none, none, none, none, none]) (fun _ => σ) (fun i => N - i) (fun i hi ih => ?_) 0 (Nat.zero_le _)) rfl rfl rfl
              refine V_iload (pc := 73) C (dk k_Z_whims 39 rfl) rfl ?_
              refine V_iload_n (pc := 75) C (dk k_Z_whims 40 rfl) rfl ?_
              refine V_icmpge (pc := 76) C (dk k_Z_whims 41 rfl) 93 rfl (by first | exact hR _ _ | with_reducible assumption | exact ⟨by omega, by omega⟩) (by first | exact hR _ _ | with_reducible assumption | exact ⟨by omega, by omega⟩) (fun h7 => ?_) (fun h7 => ?_)
              · skip
                have hiN : i = N := by omega
                rw [hiN]
                refine V_iconst (pc := 93) C (dk k_Z_whims 48 rfl) rfl ?_
                refine V_istore (pc := 94) C (dk k_Z_whims 49 rfl) (by rw [hXN]; decide) ?_
                dsimp only [lst, lstL, lz, kill, Fin.val, Nat.reduceAdd]
                refine V_eq (V_loop (fun w : Nat => w ≤ 2 ^ N) (fun w => [some (vR 128), some (vI t), some (vI (N : Int)), some (vI m), some (vI c), some (vI k), some (vL (whs π x t m c N w)), none, some (vL (10 ^ N)), none, some (vI (w : Int)), none, none, none, none, none]) (fun _ => σ) (fun w => 2 ^ N - w) (fun w hw ihw => ?_) 0 (Nat.zero_le _)) rfl rfl rfl
                refine V_iload (pc := 96) C (dk k_Z_whims 50 rfl) rfl ?_
                refine V_iconst (pc := 98) C (dk k_Z_whims 51 rfl) rfl ?_
                refine V_iload_n (pc := 99) C (dk k_Z_whims 52 rfl) rfl ?_
                refine V_ishl (pc := 100) C (dk k_Z_whims 53 rfl) (by omega) (by omega) (by omega) (by omega) ?_
                rw [p2I]
                refine V_icmpge (pc := 101) C (dk k_Z_whims 54 rfl) 226 rfl (by first | exact hR _ _ | with_reducible assumption | exact ⟨by omega, by omega⟩) (by first | exact hR _ _ | with_reducible assumption | exact ⟨by omega, by omega⟩) (fun h8 => ?_) (fun h8 => ?_)
                · skip
                  obtain rfl : w = 2 ^ N := by omega
                  rw [whs_all]
                  have hg : 0 < Int.gcd (10 ^ N - nvr π x t m c N) (10 ^ N) := Int.gcd_pos_of_ne_zero_right _ (by omega)
                  have hgb : (Int.gcd (10 ^ N - nvr π x t m c N) (10 ^ N) : Int) ≤ 10 ^ N := Int.le_of_dvd (by omega) (Int.gcd_dvd_right ..)
                  refine V_lload (pc := 226) C (dk k_Z_whims 117 rfl) rfl ?_
                  refine V_lload (pc := 228) C (dk k_Z_whims 118 rfl) rfl ?_
                  refine V_callS (pc := 230) C (dk k_Z_whims 119 rfl) lk_Z_255 cm_Z_common sm_Z_common (c_Z_common _ _ _ (10 ^ N - nvr π x t m c N) (10 ^ N) (by omega) (by omega) (by omega) (by omega)) rfl rfl (Nat.le_of_ble_eq_true rfl) (Rm.mono hRm (by decide) (by decide)) ?_
                  refine V_lstore (pc := 233) C (dk k_Z_whims 120 rfl) (by rw [hXN]; decide) ?_
                  dsimp only [lst, lstL, lz, kill, Fin.val, Nat.reduceAdd]
                  refine V_iload (pc := 235) C (dk k_Z_whims 121 rfl) rfl ?_
                  refine V_ifne (pc := 237) C (dk k_Z_whims 122 rfl) 248 rfl (by first | exact hR _ _ | with_reducible assumption | exact ⟨by omega, by omega⟩) (fun h9 => ?_) (fun h9 => ?_)
                  · skip
                    refine V_lload (pc := 248) C (dk k_Z_whims 127 rfl) rfl ?_
                    refine V_lload (pc := 250) C (dk k_Z_whims 128 rfl) rfl ?_
                    refine V_ldiv (pc := 252) C (dk k_Z_whims 129 rfl) ⟨by omega, by omega⟩ ⟨by omega, by omega⟩ (by omega) (by omega) ?_
                    refine V_l2i (pc := 253) C (dk k_Z_whims 130 rfl) ?_
                    refine V_iret (pc := 254) C E (dk k_Z_whims 131 rfl) ?_
                    refine ⟨?_, rfl⟩
                    unfold o_whims
                    rw [if_pos (by omega), if_pos (by omega), Int.toNat_natCast]
                    unfold lp
                    first | (rw [if_pos (by omega)]; done) | (rw [if_neg (by omega)]; done)
                  · skip
                    refine V_lload (pc := 240) C (dk k_Z_whims 123 rfl) rfl ?_
                    refine V_lload (pc := 242) C (dk k_Z_whims 124 rfl) rfl ?_
                    refine V_ldiv (pc := 244) C (dk k_Z_whims 125 rfl) ⟨by omega, by omega⟩ ⟨by omega, by omega⟩ (by omega) (by omega) ?_
                    refine V_goto (pc := 245) C (dk k_Z_whims 126 rfl) 253 rfl ?_
                    refine V_l2i (pc := 253) C (dk k_Z_whims 130 rfl) ?_
                    refine V_iret (pc := 254) C E (dk k_Z_whims 131 rfl) ?_
                    refine ⟨?_, rfl⟩
                    unfold o_whims
                    rw [if_pos (by omega), if_pos (by omega), Int.toNat_natCast]
                    unfold lp
                    first | (rw [if_pos (by omega)]; done) | (rw [if_neg (by omega)]; done)
                · skip
                  refine V_lconst (pc := 104) (n' := 1) C (dk k_Z_whims 55 rfl) rfl ?_
                  refine V_lstore (pc := 105) C (dk k_Z_whims 56 rfl) (by rw [hXN]; decide) ?_
                  dsimp only [lst, lstL, lz, kill, Fin.val, Nat.reduceAdd]
                  refine V_iconst (pc := 107) C (dk k_Z_whims 57 rfl) rfl ?_
                  refine V_istore (pc := 108) C (dk k_Z_whims 58 rfl) (by rw [hXN]; decide) ?_
                  dsimp only [lst, lstL, lz, kill, Fin.val, Nat.reduceAdd]
                  refine V_iconst (pc := 110) C (dk k_Z_whims 59 rfl) rfl ?_
                  refine V_istore (pc := 111) C (dk k_Z_whims 60 rfl) (by rw [hXN]; decide) ?_
                  dsimp only [lst, lstL, lz, kill, Fin.val, Nat.reduceAdd]
                  refine V_eq (V_loop (fun kk : Nat => kk ≤ N) (fun kk => [some (vR 128), some (vI t), some (vI (N : Int)), some (vI m), some (vI c), some (vI k), some (vL (whs π x t m c N w)), none, some (vL (10 ^ N)), none, some (vI (w : Int)), some (vL (gp (hW c) w kk)), none, some (vI (if isw π x t m w kk = true then 1 else 0)), some (vI (kk : Int)), none]) (fun _ => σ) (fun kk => N - kk) (fun kk hkk ihk => ?_) 0 (Nat.zero_le _)) rfl rfl rfl
                  have hp1 := pr_b (d := sD x + (kk : Int)) ok xk (t := t) (by omega) (by omega)
                  refine V_iload (pc := 113) C (dk k_Z_whims 61 rfl) rfl ?_
                  refine V_iload_n (pc := 115) C (dk k_Z_whims 62 rfl) rfl ?_
                  refine V_icmpge (pc := 116) C (dk k_Z_whims 63 rfl) 204 rfl (by first | exact hR _ _ | with_reducible assumption | exact ⟨by omega, by omega⟩) (by first | exact hR _ _ | with_reducible assumption | exact ⟨by omega, by omega⟩) (fun h10 => ?_) (fun h10 => ?_)
                  · skip
                    obtain rfl : N = kk := by omega
                    refine V_lload (pc := 204) C (dk k_Z_whims 107 rfl) rfl ?_
                    refine V_iload (pc := 206) C (dk k_Z_whims 108 rfl) rfl ?_
                    refine V_ifeqB (pc := 208) C (dk k_Z_whims 109 rfl) 216 rfl (fun h11 => ?_) (fun h11 => ?_)
                    · skip
                      refine V_lconst (pc := 216) (n' := 0) C (dk k_Z_whims 112 rfl) rfl ?_
                      refine V_ladd (pc := 217) C (dk k_Z_whims 113 rfl) ?_
                      refine V_lstore (pc := 218) C (dk k_Z_whims 114 rfl) (by rw [hXN]; decide) ?_
                      dsimp only [lst, lstL, lz, kill, Fin.val, Nat.reduceAdd]
                      refine V_iinc (pc := 220) C (dk k_Z_whims 115 rfl) (by rw [hXN]; decide) rfl ?_
                      dsimp only [lst, lstL, lz, kill, Fin.val, Nat.reduceAdd]
                      refine V_goto (pc := 223) C (dk k_Z_whims 116 rfl) 96 rfl ?_
                      refine V_fg 11 ?_
                      refine V_fg 13 ?_
                      refine V_fg 14 ?_
                      refine V_fg 15 ?_
                      dsimp only [fg]
                      refine V_eq (ihw (w + 1) (by omega) (by omega)) ?_ rfl rfl
                      rw [show whs π x t m c N (w + 1) = whs π x t m c N w + (if isw π x t m w N = true then gp (hW c) w N else 0) from rfl]
                      first | (rw [if_pos (by assumption)]; rfl) | (rw [if_neg (by assumption)]; rfl)
                    · skip
                      refine V_lload (pc := 211) C (dk k_Z_whims 110 rfl) rfl ?_
                      refine V_goto (pc := 213) C (dk k_Z_whims 111 rfl) 217 rfl ?_
                      refine V_ladd (pc := 217) C (dk k_Z_whims 113 rfl) ?_
                      refine V_lstore (pc := 218) C (dk k_Z_whims 114 rfl) (by rw [hXN]; decide) ?_
                      dsimp only [lst, lstL, lz, kill, Fin.val, Nat.reduceAdd]
                      refine V_iinc (pc := 220) C (dk k_Z_whims 115 rfl) (by rw [hXN]; decide) rfl ?_
                      dsimp only [lst, lstL, lz, kill, Fin.val, Nat.reduceAdd]
                      refine V_goto (pc := 223) C (dk k_Z_whims 116 rfl) 96 rfl ?_
                      refine V_fg 11 ?_
                      refine V_fg 13 ?_
                      refine V_fg 14 ?_
                      refine V_fg 15 ?_
                      dsimp only [fg]
                      refine V_eq (ihw (w + 1) (by omega) (by omega)) ?_ rfl rfl
                      rw [show whs π x t m c N (w + 1) = whs π x t m c N w + (if isw π x t m w N = true then gp (hW c) w N else 0) from rfl]
                      first | (rw [if_pos (by assumption)]; rfl) | (rw [if_neg (by assumption)]; rfl)
                  · skip
                    refine V_lload (pc := 119) C (dk k_Z_whims 64 rfl) rfl ?_
                    refine V_iload (pc := 121) C (dk k_Z_whims 65 rfl) rfl ?_
                    refine V_iload (pc := 123) C (dk k_Z_whims 66 rfl) rfl ?_
                    refine V_callS (pc := 125) C (dk k_Z_whims 67 rfl) lk_Z_221 cm_Z_has sm_Z_has (c_Z_has _ _ _ w kk (by omega) (by omega)) rfl rfl (Nat.le_of_ble_eq_true rfl) (Rm.mono hRm (by decide) (by decide)) ?_
                    refine V_ifeqB (pc := 128) C (dk k_Z_whims 68 rfl) 137 rfl (fun h12 => ?_) (fun h12 => ?_)
                    · skip
                      refine V_bipush (pc := 137) (n' := 10) C (dk k_Z_whims 72 rfl) rfl ?_
                      refine V_iload (pc := 139) C (dk k_Z_whims 73 rfl) rfl ?_
                      refine V_isub (pc := 141) C (dk k_Z_whims 74 rfl) ?_
                      refine V_i2l (pc := 142) C (dk k_Z_whims 75 rfl) (by first | exact hR _ _ | with_reducible assumption | exact ⟨by omega, by omega⟩) ?_
                      refine V_lmul (pc := 143) C (dk k_Z_whims 76 rfl) ?_
                      refine V_lstore (pc := 144) C (dk k_Z_whims 77 rfl) (by rw [hXN]; decide) ?_
                      dsimp only [lst, lstL, lz, kill, Fin.val, Nat.reduceAdd]
                      refine V_iload (pc := 146) C (dk k_Z_whims 78 rfl) rfl ?_
                      refine V_iload (pc := 148) C (dk k_Z_whims 79 rfl) rfl ?_
                      refine V_callS (pc := 150) C (dk k_Z_whims 80 rfl) lk_Z_221 cm_Z_has sm_Z_has (c_Z_has _ _ _ w kk (by omega) (by omega)) rfl rfl (Nat.le_of_ble_eq_true rfl) (Rm.mono hRm (by decide) (by decide)) ?_
                      refine V_ifeqB (pc := 153) C (dk k_Z_whims 81 rfl) 160 rfl (fun h13 => ?_) (fun h13 => ?_)
                      · skip
                        refine V_aload_n (pc := 160) C (dk k_Z_whims 84 rfl) rfl ?_
                        refine V_getr (pc := 161) (o2 := 135) C (dk k_Z_whims 85 rfl) fl_Z_28 kq_128 (by decide) rfl (by decide) rfl ?_
                        refine V_iload_n (pc := 164) C (dk k_Z_whims 86 rfl) rfl ?_
                        refine V_iald (pc := 165) C (dk k_Z_whims 87 rfl) kq_135 (by decide) (by omega) (by omega) ?_
                        rw [gN]
                        refine V_aload_n (pc := 166) C (dk k_Z_whims 88 rfl) rfl ?_
                        refine V_aload_n (pc := 167) C (dk k_Z_whims 89 rfl) rfl ?_
                        refine V_geti (pc := 168) (ji := 8) C (dk k_Z_whims 90 rfl) fl_Z_150 kq_128 (by decide) rfl rfl ?_
                        refine V_iload (pc := 171) C (dk k_Z_whims 91 rfl) rfl ?_
                        refine V_iadd (pc := 173) C (dk k_Z_whims 92 rfl) ?_
                        rw [f0]
                        refine V_callV (pc := 174) C (dk k_Z_whims 93 rfl) lk_Z_162 cm_Z_rateOf vm_Z_rateOf (c_Z_rateOf _ _ _ π (sD x + (kk : Int)) hπ0 ok ⟨by omega, by omega⟩ (by omega)) kq_128 rfl rfl rfl (Nat.le_of_ble_eq_true rfl) (Rm.mono hRm (by decide) (by decide)) ?_
                        refine V_imul (pc := 177) C (dk k_Z_whims 94 rfl) ?_
                        refine V_istore (pc := 178) C (dk k_Z_whims 95 rfl) (by rw [hXN]; decide) ?_
                        dsimp only [lst, lstL, lz, kill, Fin.val, Nat.reduceAdd]
                        refine V_iload (pc := 180) C (dk k_Z_whims 96 rfl) rfl ?_
                        refine V_ifneB (pc := 182) C (dk k_Z_whims 97 rfl) 191 rfl (fun h14 => ?_) (fun h14 => ?_)
                        · skip
                          refine V_iconst (pc := 191) C (dk k_Z_whims 101 rfl) rfl ?_
                          refine V_goto (pc := 192) C (dk k_Z_whims 102 rfl) 196 rfl ?_
                          refine V_istore (pc := 196) C (dk k_Z_whims 104 rfl) (by rw [hXN]; decide) ?_
                          dsimp only [lst, lstL, lz, kill, Fin.val, Nat.reduceAdd]
                          refine V_iinc (pc := 198) C (dk k_Z_whims 105 rfl) (by rw [hXN]; decide) rfl ?_
                          dsimp only [lst, lstL, lz, kill, Fin.val, Nat.reduceAdd]
                          refine V_goto (pc := 201) C (dk k_Z_whims 106 rfl) 113 rfl ?_
                          refine V_fg 15 ?_
                          dsimp only [fg]
                          refine V_eq (ihk (kk + 1) (by omega) (by omega)) ?_ rfl rfl
                          rw [show gp (hW c) w (kk + 1) = gp (hW c) w kk * (if w.testBit kk = true then c else 10 - c) from rfl, show isw π x t m w (kk + 1) = (isw π x t m w kk || decide (m ≤ (if w.testBit kk = true then 0 else sN x t * rt π (sD x + (kk : Int))))) from rfl]
                          first | rw [if_pos (show w.testBit kk = true by assumption)] | rw [if_neg (show ¬ w.testBit kk = true by assumption)]
                          first | rw [if_pos (show w.testBit kk = true by assumption)] | rw [if_neg (show ¬ w.testBit kk = true by assumption)] | skip
                          first | (exfalso; exact absurd (show w.testBit kk = true by assumption) (show ¬ w.testBit kk = true by assumption)) | (rw [if_pos (by rw [Bool.or_eq_true]; exact Or.inl (by assumption))]; rfl) | (rw [if_pos (by rw [Bool.or_eq_true]; exact Or.inr (decide_eq_true (by omega)))]; rfl) | (rw [if_neg (by rw [Bool.or_eq_true]; exact (fun z => z.elim (by assumption) (fun z2 => by have := of_decide_eq_true z2; omega)))]; rfl)
                        · skip
                          refine V_iload (pc := 185) C (dk k_Z_whims 98 rfl) rfl ?_
                          refine V_iload_n (pc := 187) C (dk k_Z_whims 99 rfl) rfl ?_
                          refine V_icmplt (pc := 188) C (dk k_Z_whims 100 rfl) 195 rfl ⟨by omega, by omega⟩ ⟨by omega, by omega⟩ (fun h15 => ?_) (fun h15 => ?_)
                          · skip
                            refine V_iconst (pc := 195) C (dk k_Z_whims 103 rfl) rfl ?_
                            refine V_istore (pc := 196) C (dk k_Z_whims 104 rfl) (by rw [hXN]; decide) ?_
                            dsimp only [lst, lstL, lz, kill, Fin.val, Nat.reduceAdd]
                            refine V_iinc (pc := 198) C (dk k_Z_whims 105 rfl) (by rw [hXN]; decide) rfl ?_
                            dsimp only [lst, lstL, lz, kill, Fin.val, Nat.reduceAdd]
                            refine V_goto (pc := 201) C (dk k_Z_whims 106 rfl) 113 rfl ?_
                            refine V_fg 15 ?_
                            dsimp only [fg]
                            refine V_eq (ihk (kk + 1) (by omega) (by omega)) ?_ rfl rfl
                            rw [show gp (hW c) w (kk + 1) = gp (hW c) w kk * (if w.testBit kk = true then c else 10 - c) from rfl, show isw π x t m w (kk + 1) = (isw π x t m w kk || decide (m ≤ (if w.testBit kk = true then 0 else sN x t * rt π (sD x + (kk : Int))))) from rfl]
                            first | rw [if_pos (show w.testBit kk = true by assumption)] | rw [if_neg (show ¬ w.testBit kk = true by assumption)]
                            first | rw [if_pos (show w.testBit kk = true by assumption)] | rw [if_neg (show ¬ w.testBit kk = true by assumption)] | skip
                            first | (exfalso; exact absurd (show w.testBit kk = true by assumption) (show ¬ w.testBit kk = true by assumption)) | (rw [if_pos (by rw [Bool.or_eq_true]; exact Or.inl (by assumption))]; rfl) | (rw [if_pos (by rw [Bool.or_eq_true]; exact Or.inr (decide_eq_true (by omega)))]; rfl) | (rw [if_neg (by rw [Bool.or_eq_true]; exact (fun z => z.elim (by assumption) (fun z2 => by have := of_decide_eq_true z2; omega)))]; rfl)
                          · skip
                            refine V_iconst (pc := 191) C (dk k_Z_whims 101 rfl) rfl ?_
                            refine V_goto (pc := 192) C (dk k_Z_whims 102 rfl) 196 rfl ?_
                            refine V_istore (pc := 196) C (dk k_Z_whims 104 rfl) (by rw [hXN]; decide) ?_
                            dsimp only [lst, lstL, lz, kill, Fin.val, Nat.reduceAdd]
                            refine V_iinc (pc := 198) C (dk k_Z_whims 105 rfl) (by rw [hXN]; decide) rfl ?_
                            dsimp only [lst, lstL, lz, kill, Fin.val, Nat.reduceAdd]
                            refine V_goto (pc := 201) C (dk k_Z_whims 106 rfl) 113 rfl ?_
                            refine V_fg 15 ?_
                            dsimp only [fg]
                            refine V_eq (ihk (kk + 1) (by omega) (by omega)) ?_ rfl rfl
                            rw [show gp (hW c) w (kk + 1) = gp (hW c) w kk * (if w.testBit kk = true then c else 10 - c) from rfl, show isw π x t m w (kk + 1) = (isw π x t m w kk || decide (m ≤ (if w.testBit kk = true then 0 else sN x t * rt π (sD x + (kk : Int))))) from rfl]
                            first | rw [if_pos (show w.testBit kk = true by assumption)] | rw [if_neg (show ¬ w.testBit kk = true by assumption)]
                            first | rw [if_pos (show w.testBit kk = true by assumption)] | rw [if_neg (show ¬ w.testBit kk = true by assumption)] | skip
                            first | (exfalso; exact absurd (show w.testBit kk = true by assumption) (show ¬ w.testBit kk = true by assumption)) | (rw [if_pos (by rw [Bool.or_eq_true]; exact Or.inl (by assumption))]; rfl) | (rw [if_pos (by rw [Bool.or_eq_true]; exact Or.inr (decide_eq_true (by omega)))]; rfl) | (rw [if_neg (by rw [Bool.or_eq_true]; exact (fun z => z.elim (by assumption) (fun z2 => by have := of_decide_eq_true z2; omega)))]; rfl)
                      · skip
                        refine V_iconst (pc := 156) C (dk k_Z_whims 82 rfl) rfl ?_
                        refine V_goto (pc := 157) C (dk k_Z_whims 83 rfl) 178 rfl ?_
                        refine V_istore (pc := 178) C (dk k_Z_whims 95 rfl) (by rw [hXN]; decide) ?_
                        dsimp only [lst, lstL, lz, kill, Fin.val, Nat.reduceAdd]
                        refine V_iload (pc := 180) C (dk k_Z_whims 96 rfl) rfl ?_
                        refine V_ifneB (pc := 182) C (dk k_Z_whims 97 rfl) 191 rfl (fun h16 => ?_) (fun h16 => ?_)
                        · skip
                          refine V_iconst (pc := 191) C (dk k_Z_whims 101 rfl) rfl ?_
                          refine V_goto (pc := 192) C (dk k_Z_whims 102 rfl) 196 rfl ?_
                          refine V_istore (pc := 196) C (dk k_Z_whims 104 rfl) (by rw [hXN]; decide) ?_
                          dsimp only [lst, lstL, lz, kill, Fin.val, Nat.reduceAdd]
                          refine V_iinc (pc := 198) C (dk k_Z_whims 105 rfl) (by rw [hXN]; decide) rfl ?_
                          dsimp only [lst, lstL, lz, kill, Fin.val, Nat.reduceAdd]
                          refine V_goto (pc := 201) C (dk k_Z_whims 106 rfl) 113 rfl ?_
                          refine V_fg 15 ?_
                          dsimp only [fg]
                          refine V_eq (ihk (kk + 1) (by omega) (by omega)) ?_ rfl rfl
                          rw [show gp (hW c) w (kk + 1) = gp (hW c) w kk * (if w.testBit kk = true then c else 10 - c) from rfl, show isw π x t m w (kk + 1) = (isw π x t m w kk || decide (m ≤ (if w.testBit kk = true then 0 else sN x t * rt π (sD x + (kk : Int))))) from rfl]
                          first | rw [if_pos (show w.testBit kk = true by assumption)] | rw [if_neg (show ¬ w.testBit kk = true by assumption)]
                          first | rw [if_pos (show w.testBit kk = true by assumption)] | rw [if_neg (show ¬ w.testBit kk = true by assumption)] | skip
                          first | (exfalso; exact absurd (show w.testBit kk = true by assumption) (show ¬ w.testBit kk = true by assumption)) | (rw [if_pos (by rw [Bool.or_eq_true]; exact Or.inl (by assumption))]; rfl) | (rw [if_pos (by rw [Bool.or_eq_true]; exact Or.inr (decide_eq_true (by omega)))]; rfl) | (rw [if_neg (by rw [Bool.or_eq_true]; exact (fun z => z.elim (by assumption) (fun z2 => by have := of_decide_eq_true z2; omega)))]; rfl)
                        · skip
                          refine V_iload (pc := 185) C (dk k_Z_whims 98 rfl) rfl ?_
                          refine V_iload_n (pc := 187) C (dk k_Z_whims 99 rfl) rfl ?_
                          refine V_icmplt (pc := 188) C (dk k_Z_whims 100 rfl) 195 rfl ⟨by omega, by omega⟩ ⟨by omega, by omega⟩ (fun h17 => ?_) (fun h17 => ?_)
                          · skip
                            refine V_iconst (pc := 195) C (dk k_Z_whims 103 rfl) rfl ?_
                            refine V_istore (pc := 196) C (dk k_Z_whims 104 rfl) (by rw [hXN]; decide) ?_
                            dsimp only [lst, lstL, lz, kill, Fin.val, Nat.reduceAdd]
                            refine V_iinc (pc := 198) C (dk k_Z_whims 105 rfl) (by rw [hXN]; decide) rfl ?_
                            dsimp only [lst, lstL, lz, kill, Fin.val, Nat.reduceAdd]
                            refine V_goto (pc := 201) C (dk k_Z_whims 106 rfl) 113 rfl ?_
                            refine V_fg 15 ?_
                            dsimp only [fg]
                            refine V_eq (ihk (kk + 1) (by omega) (by omega)) ?_ rfl rfl
                            rw [show gp (hW c) w (kk + 1) = gp (hW c) w kk * (if w.testBit kk = true then c else 10 - c) from rfl, show isw π x t m w (kk + 1) = (isw π x t m w kk || decide (m ≤ (if w.testBit kk = true then 0 else sN x t * rt π (sD x + (kk : Int))))) from rfl]
                            first | rw [if_pos (show w.testBit kk = true by assumption)] | rw [if_neg (show ¬ w.testBit kk = true by assumption)]
                            first | rw [if_pos (show w.testBit kk = true by assumption)] | rw [if_neg (show ¬ w.testBit kk = true by assumption)] | skip
                            first | (exfalso; exact absurd (show w.testBit kk = true by assumption) (show ¬ w.testBit kk = true by assumption)) | (rw [if_pos (by rw [Bool.or_eq_true]; exact Or.inl (by assumption))]; rfl) | (rw [if_pos (by rw [Bool.or_eq_true]; exact Or.inr (decide_eq_true (by omega)))]; rfl) | (rw [if_neg (by rw [Bool.or_eq_true]; exact (fun z => z.elim (by assumption) (fun z2 => by have := of_decide_eq_true z2; omega)))]; rfl)
                          · skip
                            refine V_iconst (pc := 191) C (dk k_Z_whims 101 rfl) rfl ?_
                            refine V_goto (pc := 192) C (dk k_Z_whims 102 rfl) 196 rfl ?_
                            refine V_istore (pc := 196) C (dk k_Z_whims 104 rfl) (by rw [hXN]; decide) ?_
                            dsimp only [lst, lstL, lz, kill, Fin.val, Nat.reduceAdd]
                            refine V_iinc (pc := 198) C (dk k_Z_whims 105 rfl) (by rw [hXN]; decide) rfl ?_
                            dsimp only [lst, lstL, lz, kill, Fin.val, Nat.reduceAdd]
                            refine V_goto (pc := 201) C (dk k_Z_whims 106 rfl) 113 rfl ?_
                            refine V_fg 15 ?_
                            dsimp only [fg]
                            refine V_eq (ihk (kk + 1) (by omega) (by omega)) ?_ rfl rfl
                            rw [show gp (hW c) w (kk + 1) = gp (hW c) w kk * (if w.testBit kk = true then c else 10 - c) from rfl, show isw π x t m w (kk + 1) = (isw π x t m w kk || decide (m ≤ (if w.testBit kk = true then 0 else sN x t * rt π (sD x + (kk : Int))))) from rfl]
                            first | rw [if_pos (show w.testBit kk = true by assumption)] | rw [if_neg (show ¬ w.testBit kk = true by assumption)]
                            first | rw [if_pos (show w.testBit kk = true by assumption)] | rw [if_neg (show ¬ w.testBit kk = true by assumption)] | skip
                            first | (exfalso; exact absurd (show w.testBit kk = true by assumption) (show ¬ w.testBit kk = true by assumption)) | (rw [if_pos (by rw [Bool.or_eq_true]; exact Or.inl (by assumption))]; rfl) | (rw [if_pos (by rw [Bool.or_eq_true]; exact Or.inr (decide_eq_true (by omega)))]; rfl) | (rw [if_neg (by rw [Bool.or_eq_true]; exact (fun z => z.elim (by assumption) (fun z2 => by have := of_decide_eq_true z2; omega)))]; rfl)
                    · skip
                      refine V_iload (pc := 131) C (dk k_Z_whims 69 rfl) rfl ?_
                      refine V_i2l (pc := 133) C (dk k_Z_whims 70 rfl) (by first | exact hR _ _ | with_reducible assumption | exact ⟨by omega, by omega⟩) ?_
                      refine V_goto (pc := 134) C (dk k_Z_whims 71 rfl) 143 rfl ?_
                      refine V_lmul (pc := 143) C (dk k_Z_whims 76 rfl) ?_
                      refine V_lstore (pc := 144) C (dk k_Z_whims 77 rfl) (by rw [hXN]; decide) ?_
                      dsimp only [lst, lstL, lz, kill, Fin.val, Nat.reduceAdd]
                      refine V_iload (pc := 146) C (dk k_Z_whims 78 rfl) rfl ?_
                      refine V_iload (pc := 148) C (dk k_Z_whims 79 rfl) rfl ?_
                      refine V_callS (pc := 150) C (dk k_Z_whims 80 rfl) lk_Z_221 cm_Z_has sm_Z_has (c_Z_has _ _ _ w kk (by omega) (by omega)) rfl rfl (Nat.le_of_ble_eq_true rfl) (Rm.mono hRm (by decide) (by decide)) ?_
                      refine V_ifeqB (pc := 153) C (dk k_Z_whims 81 rfl) 160 rfl (fun h18 => ?_) (fun h18 => ?_)
                      · skip
                        refine V_aload_n (pc := 160) C (dk k_Z_whims 84 rfl) rfl ?_
                        refine V_getr (pc := 161) (o2 := 135) C (dk k_Z_whims 85 rfl) fl_Z_28 kq_128 (by decide) rfl (by decide) rfl ?_
                        refine V_iload_n (pc := 164) C (dk k_Z_whims 86 rfl) rfl ?_
                        refine V_iald (pc := 165) C (dk k_Z_whims 87 rfl) kq_135 (by decide) (by omega) (by omega) ?_
                        rw [gN]
                        refine V_aload_n (pc := 166) C (dk k_Z_whims 88 rfl) rfl ?_
                        refine V_aload_n (pc := 167) C (dk k_Z_whims 89 rfl) rfl ?_
                        refine V_geti (pc := 168) (ji := 8) C (dk k_Z_whims 90 rfl) fl_Z_150 kq_128 (by decide) rfl rfl ?_
                        refine V_iload (pc := 171) C (dk k_Z_whims 91 rfl) rfl ?_
                        refine V_iadd (pc := 173) C (dk k_Z_whims 92 rfl) ?_
                        rw [f0]
                        refine V_callV (pc := 174) C (dk k_Z_whims 93 rfl) lk_Z_162 cm_Z_rateOf vm_Z_rateOf (c_Z_rateOf _ _ _ π (sD x + (kk : Int)) hπ0 ok ⟨by omega, by omega⟩ (by omega)) kq_128 rfl rfl rfl (Nat.le_of_ble_eq_true rfl) (Rm.mono hRm (by decide) (by decide)) ?_
                        refine V_imul (pc := 177) C (dk k_Z_whims 94 rfl) ?_
                        refine V_istore (pc := 178) C (dk k_Z_whims 95 rfl) (by rw [hXN]; decide) ?_
                        dsimp only [lst, lstL, lz, kill, Fin.val, Nat.reduceAdd]
                        refine V_iload (pc := 180) C (dk k_Z_whims 96 rfl) rfl ?_
                        refine V_ifneB (pc := 182) C (dk k_Z_whims 97 rfl) 191 rfl (fun h19 => ?_) (fun h19 => ?_)
                        · skip
                          refine V_iconst (pc := 191) C (dk k_Z_whims 101 rfl) rfl ?_
                          refine V_goto (pc := 192) C (dk k_Z_whims 102 rfl) 196 rfl ?_
                          refine V_istore (pc := 196) C (dk k_Z_whims 104 rfl) (by rw [hXN]; decide) ?_
                          dsimp only [lst, lstL, lz, kill, Fin.val, Nat.reduceAdd]
                          refine V_iinc (pc := 198) C (dk k_Z_whims 105 rfl) (by rw [hXN]; decide) rfl ?_
                          dsimp only [lst, lstL, lz, kill, Fin.val, Nat.reduceAdd]
                          refine V_goto (pc := 201) C (dk k_Z_whims 106 rfl) 113 rfl ?_
                          refine V_fg 15 ?_
                          dsimp only [fg]
                          refine V_eq (ihk (kk + 1) (by omega) (by omega)) ?_ rfl rfl
                          rw [show gp (hW c) w (kk + 1) = gp (hW c) w kk * (if w.testBit kk = true then c else 10 - c) from rfl, show isw π x t m w (kk + 1) = (isw π x t m w kk || decide (m ≤ (if w.testBit kk = true then 0 else sN x t * rt π (sD x + (kk : Int))))) from rfl]
                          first | rw [if_pos (show w.testBit kk = true by assumption)] | rw [if_neg (show ¬ w.testBit kk = true by assumption)]
                          first | rw [if_pos (show w.testBit kk = true by assumption)] | rw [if_neg (show ¬ w.testBit kk = true by assumption)] | skip
                          first | (exfalso; exact absurd (show w.testBit kk = true by assumption) (show ¬ w.testBit kk = true by assumption)) | (rw [if_pos (by rw [Bool.or_eq_true]; exact Or.inl (by assumption))]; rfl) | (rw [if_pos (by rw [Bool.or_eq_true]; exact Or.inr (decide_eq_true (by omega)))]; rfl) | (rw [if_neg (by rw [Bool.or_eq_true]; exact (fun z => z.elim (by assumption) (fun z2 => by have := of_decide_eq_true z2; omega)))]; rfl)
                        · skip
                          refine V_iload (pc := 185) C (dk k_Z_whims 98 rfl) rfl ?_
                          refine V_iload_n (pc := 187) C (dk k_Z_whims 99 rfl) rfl ?_
                          refine V_icmplt (pc := 188) C (dk k_Z_whims 100 rfl) 195 rfl ⟨by omega, by omega⟩ ⟨by omega, by omega⟩ (fun h20 => ?_) (fun h20 => ?_)
                          · skip
                            refine V_iconst (pc := 195) C (dk k_Z_whims 103 rfl) rfl ?_
                            refine V_istore (pc := 196) C (dk k_Z_whims 104 rfl) (by rw [hXN]; decide) ?_
                            dsimp only [lst, lstL, lz, kill, Fin.val, Nat.reduceAdd]
                            refine V_iinc (pc := 198) C (dk k_Z_whims 105 rfl) (by rw [hXN]; decide) rfl ?_
                            dsimp only [lst, lstL, lz, kill, Fin.val, Nat.reduceAdd]
                            refine V_goto (pc := 201) C (dk k_Z_whims 106 rfl) 113 rfl ?_
                            refine V_fg 15 ?_
                            dsimp only [fg]
                            refine V_eq (ihk (kk + 1) (by omega) (by omega)) ?_ rfl rfl
                            rw [show gp (hW c) w (kk + 1) = gp (hW c) w kk * (if w.testBit kk = true then c else 10 - c) from rfl, show isw π x t m w (kk + 1) = (isw π x t m w kk || decide (m ≤ (if w.testBit kk = true then 0 else sN x t * rt π (sD x + (kk : Int))))) from rfl]
                            first | rw [if_pos (show w.testBit kk = true by assumption)] | rw [if_neg (show ¬ w.testBit kk = true by assumption)]
                            first | rw [if_pos (show w.testBit kk = true by assumption)] | rw [if_neg (show ¬ w.testBit kk = true by assumption)] | skip
                            first | (exfalso; exact absurd (show w.testBit kk = true by assumption) (show ¬ w.testBit kk = true by assumption)) | (rw [if_pos (by rw [Bool.or_eq_true]; exact Or.inl (by assumption))]; rfl) | (rw [if_pos (by rw [Bool.or_eq_true]; exact Or.inr (decide_eq_true (by omega)))]; rfl) | (rw [if_neg (by rw [Bool.or_eq_true]; exact (fun z => z.elim (by assumption) (fun z2 => by have := of_decide_eq_true z2; omega)))]; rfl)
                          · skip
                            refine V_iconst (pc := 191) C (dk k_Z_whims 101 rfl) rfl ?_
                            refine V_goto (pc := 192) C (dk k_Z_whims 102 rfl) 196 rfl ?_
                            refine V_istore (pc := 196) C (dk k_Z_whims 104 rfl) (by rw [hXN]; decide) ?_
                            dsimp only [lst, lstL, lz, kill, Fin.val, Nat.reduceAdd]
                            refine V_iinc (pc := 198) C (dk k_Z_whims 105 rfl) (by rw [hXN]; decide) rfl ?_
                            dsimp only [lst, lstL, lz, kill, Fin.val, Nat.reduceAdd]
                            refine V_goto (pc := 201) C (dk k_Z_whims 106 rfl) 113 rfl ?_
                            refine V_fg 15 ?_
                            dsimp only [fg]
                            refine V_eq (ihk (kk + 1) (by omega) (by omega)) ?_ rfl rfl
                            rw [show gp (hW c) w (kk + 1) = gp (hW c) w kk * (if w.testBit kk = true then c else 10 - c) from rfl, show isw π x t m w (kk + 1) = (isw π x t m w kk || decide (m ≤ (if w.testBit kk = true then 0 else sN x t * rt π (sD x + (kk : Int))))) from rfl]
                            first | rw [if_pos (show w.testBit kk = true by assumption)] | rw [if_neg (show ¬ w.testBit kk = true by assumption)]
                            first | rw [if_pos (show w.testBit kk = true by assumption)] | rw [if_neg (show ¬ w.testBit kk = true by assumption)] | skip
                            first | (exfalso; exact absurd (show w.testBit kk = true by assumption) (show ¬ w.testBit kk = true by assumption)) | (rw [if_pos (by rw [Bool.or_eq_true]; exact Or.inl (by assumption))]; rfl) | (rw [if_pos (by rw [Bool.or_eq_true]; exact Or.inr (decide_eq_true (by omega)))]; rfl) | (rw [if_neg (by rw [Bool.or_eq_true]; exact (fun z => z.elim (by assumption) (fun z2 => by have := of_decide_eq_true z2; omega)))]; rfl)
                      · skip
                        refine V_iconst (pc := 156) C (dk k_Z_whims 82 rfl) rfl ?_
                        refine V_goto (pc := 157) C (dk k_Z_whims 83 rfl) 178 rfl ?_
                        refine V_istore (pc := 178) C (dk k_Z_whims 95 rfl) (by rw [hXN]; decide) ?_
                        dsimp only [lst, lstL, lz, kill, Fin.val, Nat.reduceAdd]
                        refine V_iload (pc := 180) C (dk k_Z_whims 96 rfl) rfl ?_
                        refine V_ifneB (pc := 182) C (dk k_Z_whims 97 rfl) 191 rfl (fun h21 => ?_) (fun h21 => ?_)
                        · skip
                          refine V_iconst (pc := 191) C (dk k_Z_whims 101 rfl) rfl ?_
                          refine V_goto (pc := 192) C (dk k_Z_whims 102 rfl) 196 rfl ?_
                          refine V_istore (pc := 196) C (dk k_Z_whims 104 rfl) (by rw [hXN]; decide) ?_
                          dsimp only [lst, lstL, lz, kill, Fin.val, Nat.reduceAdd]
                          refine V_iinc (pc := 198) C (dk k_Z_whims 105 rfl) (by rw [hXN]; decide) rfl ?_
                          dsimp only [lst, lstL, lz, kill, Fin.val, Nat.reduceAdd]
                          refine V_goto (pc := 201) C (dk k_Z_whims 106 rfl) 113 rfl ?_
                          refine V_fg 15 ?_
                          dsimp only [fg]
                          refine V_eq (ihk (kk + 1) (by omega) (by omega)) ?_ rfl rfl
                          rw [show gp (hW c) w (kk + 1) = gp (hW c) w kk * (if w.testBit kk = true then c else 10 - c) from rfl, show isw π x t m w (kk + 1) = (isw π x t m w kk || decide (m ≤ (if w.testBit kk = true then 0 else sN x t * rt π (sD x + (kk : Int))))) from rfl]
                          first | rw [if_pos (show w.testBit kk = true by assumption)] | rw [if_neg (show ¬ w.testBit kk = true by assumption)]
                          first | rw [if_pos (show w.testBit kk = true by assumption)] | rw [if_neg (show ¬ w.testBit kk = true by assumption)] | skip
                          first | (exfalso; exact absurd (show w.testBit kk = true by assumption) (show ¬ w.testBit kk = true by assumption)) | (rw [if_pos (by rw [Bool.or_eq_true]; exact Or.inl (by assumption))]; rfl) | (rw [if_pos (by rw [Bool.or_eq_true]; exact Or.inr (decide_eq_true (by omega)))]; rfl) | (rw [if_neg (by rw [Bool.or_eq_true]; exact (fun z => z.elim (by assumption) (fun z2 => by have := of_decide_eq_true z2; omega)))]; rfl)
                        · skip
                          refine V_iload (pc := 185) C (dk k_Z_whims 98 rfl) rfl ?_
                          refine V_iload_n (pc := 187) C (dk k_Z_whims 99 rfl) rfl ?_
                          refine V_icmplt (pc := 188) C (dk k_Z_whims 100 rfl) 195 rfl ⟨by omega, by omega⟩ ⟨by omega, by omega⟩ (fun h22 => ?_) (fun h22 => ?_)
                          · skip
                            refine V_iconst (pc := 195) C (dk k_Z_whims 103 rfl) rfl ?_
                            refine V_istore (pc := 196) C (dk k_Z_whims 104 rfl) (by rw [hXN]; decide) ?_
                            dsimp only [lst, lstL, lz, kill, Fin.val, Nat.reduceAdd]
                            refine V_iinc (pc := 198) C (dk k_Z_whims 105 rfl) (by rw [hXN]; decide) rfl ?_
                            dsimp only [lst, lstL, lz, kill, Fin.val, Nat.reduceAdd]
                            refine V_goto (pc := 201) C (dk k_Z_whims 106 rfl) 113 rfl ?_
                            refine V_fg 15 ?_
                            dsimp only [fg]
                            refine V_eq (ihk (kk + 1) (by omega) (by omega)) ?_ rfl rfl
                            rw [show gp (hW c) w (kk + 1) = gp (hW c) w kk * (if w.testBit kk = true then c else 10 - c) from rfl, show isw π x t m w (kk + 1) = (isw π x t m w kk || decide (m ≤ (if w.testBit kk = true then 0 else sN x t * rt π (sD x + (kk : Int))))) from rfl]
                            first | rw [if_pos (show w.testBit kk = true by assumption)] | rw [if_neg (show ¬ w.testBit kk = true by assumption)]
                            first | rw [if_pos (show w.testBit kk = true by assumption)] | rw [if_neg (show ¬ w.testBit kk = true by assumption)] | skip
                            first | (exfalso; exact absurd (show w.testBit kk = true by assumption) (show ¬ w.testBit kk = true by assumption)) | (rw [if_pos (by rw [Bool.or_eq_true]; exact Or.inl (by assumption))]; rfl) | (rw [if_pos (by rw [Bool.or_eq_true]; exact Or.inr (decide_eq_true (by omega)))]; rfl) | (rw [if_neg (by rw [Bool.or_eq_true]; exact (fun z => z.elim (by assumption) (fun z2 => by have := of_decide_eq_true z2; omega)))]; rfl)
                          · skip
                            refine V_iconst (pc := 191) C (dk k_Z_whims 101 rfl) rfl ?_
                            refine V_goto (pc := 192) C (dk k_Z_whims 102 rfl) 196 rfl ?_
                            refine V_istore (pc := 196) C (dk k_Z_whims 104 rfl) (by rw [hXN]; decide) ?_
                            dsimp only [lst, lstL, lz, kill, Fin.val, Nat.reduceAdd]
                            refine V_iinc (pc := 198) C (dk k_Z_whims 105 rfl) (by rw [hXN]; decide) rfl ?_
                            dsimp only [lst, lstL, lz, kill, Fin.val, Nat.reduceAdd]
                            refine V_goto (pc := 201) C (dk k_Z_whims 106 rfl) 113 rfl ?_
                            refine V_fg 15 ?_
                            dsimp only [fg]
                            refine V_eq (ihk (kk + 1) (by omega) (by omega)) ?_ rfl rfl
                            rw [show gp (hW c) w (kk + 1) = gp (hW c) w kk * (if w.testBit kk = true then c else 10 - c) from rfl, show isw π x t m w (kk + 1) = (isw π x t m w kk || decide (m ≤ (if w.testBit kk = true then 0 else sN x t * rt π (sD x + (kk : Int))))) from rfl]
                            first | rw [if_pos (show w.testBit kk = true by assumption)] | rw [if_neg (show ¬ w.testBit kk = true by assumption)]
                            first | rw [if_pos (show w.testBit kk = true by assumption)] | rw [if_neg (show ¬ w.testBit kk = true by assumption)] | skip
                            first | (exfalso; exact absurd (show w.testBit kk = true by assumption) (show ¬ w.testBit kk = true by assumption)) | (rw [if_pos (by rw [Bool.or_eq_true]; exact Or.inl (by assumption))]; rfl) | (rw [if_pos (by rw [Bool.or_eq_true]; exact Or.inr (decide_eq_true (by omega)))]; rfl) | (rw [if_neg (by rw [Bool.or_eq_true]; exact (fun z => z.elim (by assumption) (fun z2 => by have := of_decide_eq_true z2; omega)))]; rfl)
              · skip
                refine V_lload (pc := 79) C (dk k_Z_whims 42 rfl) rfl ?_
                refine V_ldc2 (pc := 81) (n' := 10) C (dk k_Z_whims 43 rfl) kc_Z_253 rfl ?_
                refine V_lmul (pc := 84) C (dk k_Z_whims 44 rfl) ?_
                refine V_lstore (pc := 85) C (dk k_Z_whims 45 rfl) (by rw [hXN]; decide) ?_
                dsimp only [lst, lstL, lz, kill, Fin.val, Nat.reduceAdd]
                refine V_iinc (pc := 87) C (dk k_Z_whims 46 rfl) (by rw [hXN]; decide) rfl ?_
                dsimp only [lst, lstL, lz, kill, Fin.val, Nat.reduceAdd]
                refine V_goto (pc := 90) C (dk k_Z_whims 47 rfl) 73 rfl ?_
                refine V_eq (ih (i + 1) (by omega) (by omega)) ?_ rfl rfl
                rw [Int.pow_succ]; rfl
            · skip
              refine V_bipush (pc := 61) (n' := (-2)) C (dk k_Z_whims 31 rfl) rfl ?_
              refine V_iret (pc := 63) C E (dk k_Z_whims 32 rfl) ?_
              exact ⟨by unfold o_whims; rw [if_pos (by omega), if_neg (by omega)], rfl⟩
          · skip
            refine V_iconst (pc := 50) C (dk k_Z_whims 24 rfl) rfl ?_
            refine V_iret (pc := 51) C E (dk k_Z_whims 25 rfl) ?_
            exact ⟨by unfold o_whims; rw [if_neg (by omega)], rfl⟩
