/-- the sum over a set of the first n things -/
def ssum (f : Int → Int) (n b : Nat) : Int := sm (fun t => if b.testBit t.toNat then f t else 0) n
theorem ssum_s (f : Int → Int) (n b : Nat) : ssum f (n + 1) b = ssum f n b + (if b.testBit n then f n else 0) := by
  show sm _ n + (if b.testBit (n : Int).toNat then f n else 0) = _
  rw [Int.toNat_natCast]; rfl
theorem ssum_lo (f : Int → Int) {n b : Nat} (h : b < 2 ^ n) : ssum f (n + 1) b = ssum f n b := by
  rw [ssum_s, Nat.testBit_lt_two_pow h]; simp
theorem ssum_hi (f : Int → Int) {n b : Nat} (h : b < 2 ^ n) : ssum f (n + 1) (2 ^ n + b) = ssum f n b + f n := by
  rw [ssum_s]
  have e1 : (2 ^ n + b).testBit n = true := by
    rw [Nat.testBit_two_pow_add_eq, Nat.testBit_lt_two_pow h]; rfl
  rw [e1, if_pos rfl]
  congr 1
  refine sm_cg _ _ n (fun t h0 h1 => ?_)
  rw [Nat.testBit_two_pow_add_gt (by omega)]
theorem ssum_b (f : Int → Int) (c : Int) (hc : 0 ≤ c) : ∀ (n b : Nat), (∀ t : Int, 0 ≤ t → t < n → -c ≤ f t ∧ f t ≤ c) → -(c * n) ≤ ssum f n b ∧ ssum f n b ≤ c * n
  | 0, b, _ => by simp [ssum, sm]
  | n + 1, b, h => by
    have ⟨h1, h2⟩ := ssum_b f c hc n b (fun t a d => h t a (by omega))
    have ⟨h3, h4⟩ := h n (by omega) (by omega)
    have e : c * ((n + 1 : Nat) : Int) = c * n + c := by rw [Int.natCast_add, Int.mul_add]; simp
    rw [ssum_s, e]
    split <;> omega
theorem ssum_cg (f g : Int → Int) (n b : Nat) (h : ∀ t : Int, 0 ≤ t → t < n → f t = g t) : ssum f n b = ssum g n b :=
  sm_cg _ _ n (fun t h0 h1 => by rw [h t h0 h1])
theorem p2N {n : Nat} (h : n ≤ 8) : 1 ≤ 2 ^ n ∧ 2 ^ n ≤ 256 := by
  have key : ∀ n : Fin 9, 1 ≤ 2 ^ n.val ∧ 2 ^ n.val ≤ 256 := by decide
  exact key ⟨n, by omega⟩
theorem p2I (n : Nat) : (1 : Int) * 2 ^ (n : Int).toNat = ((2 ^ n : Nat) : Int) := by
  rw [Int.one_mul, Int.toNat_natCast, Int.natCast_pow]; rfl
/-- the search for the best of the sets below i -/
def fnd (ok : Nat → Bool) (W : Nat → Int) : Nat → Option (Nat × Int)
  | 0 => none
  | i + 1 => match fnd ok W i with
    | none => if ok i then some (i, W i) else none
    | some (s, v) => if ok i && decide (v < W i) then some (i, W i) else some (s, v)

def i_C_offer : List (Nat × (Instr × Nat)) := [(0, (.aload_n 0, 1)), (1, (.getfield 9, 3)), (4, (.iload_n 1, 1)), (5, (.iload_n 2, 1)), (6, (.invokestatic 24, 3)), (9, (.aload_n 0, 1)), (10, (.getfield 15, 3)), (13, (.iload_n 1, 1)), (14, (.iload_n 3, 1)), (15, (.invokestatic 24, 3)), (18, (.return_, 1))]
theorem k_C_offer : i_C_offer.all (fun q => decide (decode b_C_offer q.1 = .ok q.2)) = true := by decide +kernel

set_option maxHeartbeats 1000000 in
set_option maxRecDepth 20000 in
theorem c_C_offer (l : Launch) (G : GE) (σ : Wd) (t a b : Int) (ht0 : 0 ≤ t) (ht1 : t < 8) (ha : inR a) (hb : inR b) : Ct l G y_C_offer b_C_offer 4 (none) 1 22 [vR 117, vI t, vI a, vI b] σ (Dt none (up (up σ 118 t a) 119 t b)) := by
  refine Ct.of cm_C_offer (Nat.le_of_ble_eq_true rfl) ?_
  intro X hXl hXG hXN hRm C E
  subst hXl; subst hXG
  have ⟨ha_1, ha_2⟩ := ha
  have ⟨hb_1, hb_2⟩ := hb
  show V X 0 [some (vR 117), some (vI t), some (vI a), some (vI b)] [] σ
  refine V_R (fun hR => ?_)
  refine V_aload_n (pc := 0) C (dk k_C_offer 0 rfl) rfl ?_
  refine V_getr (pc := 1) (o2 := 118) C (dk k_C_offer 1 rfl) fl_C_9 kq_117 (by decide) rfl (by decide) rfl ?_
  refine V_iload_n (pc := 4) C (dk k_C_offer 2 rfl) rfl ?_
  refine V_iload_n (pc := 5) C (dk k_C_offer 3 rfl) rfl ?_
  refine V_callS0 (pc := 6) C (dk k_C_offer 4 rfl) lk_C_24 cm_F_put sm_F_put (c_put _ _ _ (118) 8 t a kq_118 (by decide) ht0 (by omega) ha) rfl rfl (Nat.le_of_ble_eq_true rfl) (Rm.mono hRm (by decide) (by decide)) ?_
  refine V_R (fun hR => ?_)
  refine V_aload_n (pc := 9) C (dk k_C_offer 5 rfl) rfl ?_
  refine V_getr (pc := 10) (o2 := 119) C (dk k_C_offer 6 rfl) fl_C_15 kq_117 (by decide) rfl (by decide) rfl ?_
  refine V_iload_n (pc := 13) C (dk k_C_offer 7 rfl) rfl ?_
  refine V_iload_n (pc := 14) C (dk k_C_offer 8 rfl) rfl ?_
  refine V_callS0 (pc := 15) C (dk k_C_offer 9 rfl) lk_C_24 cm_F_put sm_F_put (c_put _ _ _ (119) 8 t b kq_119 (by decide) ht0 (by omega) hb) rfl rfl (Nat.le_of_ble_eq_true rfl) (Rm.mono hRm (by decide) (by decide)) ?_
  refine V_R (fun hR => ?_)
  refine V_vret (pc := 18) C E (dk k_C_offer 10 rfl) ?_
  first | exact ⟨rfl, rfl⟩ | (refine ⟨?_, rfl⟩; first | (rw [if_pos (by omega)]; done) | (rw [if_neg (by omega)]; done))

def i_C_addUp : List (Nat × (Instr × Nat)) := [(0, (.aload_n 0, 1)), (1, (.getfield 18, 3)), (4, (.iconst 0, 1)), (5, (.iconst 0, 1)), (6, (.invokestatic 24, 3)), (9, (.aload_n 0, 1)), (10, (.getfield 21, 3)), (13, (.iconst 0, 1)), (14, (.iconst 0, 1)), (15, (.invokestatic 24, 3)), (18, (.iconst 0, 1)), (19, (.istore_n 2, 1)), (20, (.iload_n 2, 1)), (21, (.iload_n 1, 1)), (22, (.if_icmp .ge 92, 3)), (25, (.iload_n 2, 1)), (26, (.bipush 8, 2)), (28, (.if_icmp .ge 86, 3)), (31, (.iconst 1, 1)), (32, (.iload_n 2, 1)), (33, (.ishl, 1)), (34, (.istore_n 3, 1)), (35, (.iconst 0, 1)), (36, (.istore 4, 2)), (38, (.iload 4, 2)), (40, (.iload_n 3, 1)), (41, (.if_icmp .ge 67, 3)), (44, (.aload_n 0, 1)), (45, (.getfield 18, 3)), (48, (.iload_n 3, 1)), (49, (.iload 4, 2)), (51, (.iadd, 1)), (52, (.aload_n 0, 1)), (53, (.getfield 18, 3)), (56, (.iload 4, 2)), (58, (.invokestatic 45, 3)), (61, (.aload_n 0, 1)), (62, (.getfield 9, 3)), (65, (.iload_n 2, 1)), (66, (.invokestatic 45, 3)), (69, (.iadd, 1)), (70, (.invokestatic 24, 3)), (73, (.aload_n 0, 1)), (74, (.getfield 21, 3)), (77, (.iload_n 3, 1)), (78, (.iload 4, 2)), (80, (.iadd, 1)), (81, (.aload_n 0, 1)), (82, (.getfield 21, 3)), (85, (.iload 4, 2)), (87, (.invokestatic 45, 3)), (90, (.aload_n 0, 1)), (91, (.getfield 15, 3)), (94, (.iload_n 2, 1)), (95, (.invokestatic 45, 3)), (98, (.iadd, 1)), (99, (.invokestatic 24, 3)), (102, (.iinc 4 1, 3)), (105, (.goto (-67), 3)), (108, (.iinc 2 1, 3)), (111, (.goto (-91), 3)), (114, (.return_, 1))]
theorem k_C_addUp : i_C_addUp.all (fun q => decide (decode b_C_addUp q.1 = .ok q.2)) = true := by decide +kernel

set_option maxHeartbeats 1000000 in
set_option maxRecDepth 20000 in
theorem c_C_addUp (l : Launch) (G : GE) (σ : Wd) (n : Nat) (hn : n ≤ 8) (hb : ∀ t : Int, 0 ≤ t → t < n → (-1000 ≤ σ 118 t ∧ σ 118 t ≤ 1000) ∧ (-1000 ≤ σ 119 t ∧ σ 119 t ≤ 1000)) : Ct l G y_C_addUp b_C_addUp 5 (none) 1 22 [vR 117, vI (n : Int)] σ (Rt none (fun σ' => (∀ b : Nat, b < 2 ^ n → σ' 120 b = ssum (σ 118) n b ∧ σ' 121 b = ssum (σ 119) n b) ∧ ∀ k, k ≠ 120 → k ≠ 121 → σ' k = σ k)) := by
  refine Ct.of cm_C_addUp (Nat.le_of_ble_eq_true rfl) ?_
  intro X hXl hXG hXN hRm C E
  subst hXl; subst hXG
  show V X 0 [some (vR 117), some (vI (n : Int)), none, none, none] [] σ
  refine V_R (fun hR => ?_)
  refine V_aload_n (pc := 0) C (dk k_C_addUp 0 rfl) rfl ?_
  refine V_getr (pc := 1) (o2 := 120) C (dk k_C_addUp 1 rfl) fl_C_18 kq_117 (by decide) rfl (by decide) rfl ?_
  refine V_iconst (pc := 4) C (dk k_C_addUp 2 rfl) rfl ?_
  refine V_iconst (pc := 5) C (dk k_C_addUp 3 rfl) rfl ?_
  refine V_callS0 (pc := 6) C (dk k_C_addUp 4 rfl) lk_C_24 cm_F_put sm_F_put (c_put _ _ _ (120) 256 0 0 kq_120 (by decide) (by omega) (by omega) R0) rfl rfl (Nat.le_of_ble_eq_true rfl) (Rm.mono hRm (by decide) (by decide)) ?_
  refine V_R (fun hR => ?_)
  refine V_aload_n (pc := 9) C (dk k_C_addUp 5 rfl) rfl ?_
  refine V_getr (pc := 10) (o2 := 121) C (dk k_C_addUp 6 rfl) fl_C_21 kq_117 (by decide) rfl (by decide) rfl ?_
  refine V_iconst (pc := 13) C (dk k_C_addUp 7 rfl) rfl ?_
  refine V_iconst (pc := 14) C (dk k_C_addUp 8 rfl) rfl ?_
  refine V_callS0 (pc := 15) C (dk k_C_addUp 9 rfl) lk_C_24 cm_F_put sm_F_put (c_put _ _ _ (121) 256 0 0 kq_121 (by decide) (by omega) (by omega) R0) rfl rfl (Nat.le_of_ble_eq_true rfl) (Rm.mono hRm (by decide) (by decide)) ?_
  refine V_R (fun hR => ?_)
  refine V_iconst (pc := 18) C (dk k_C_addUp 10 rfl) rfl ?_
  refine V_istore_n (pc := 19) C (dk k_C_addUp 11 rfl) (by rw [hXN]; decide) ?_
  dsimp only [lst, lstL, lz, kill, Fin.val, Nat.reduceAdd]
  refine V_eq (V_loop (fun q : Nat × Wd => q.1 ≤ n ∧ (∀ b : Nat, b < 2 ^ q.1 → q.2 120 b = ssum (σ 118) q.1 b ∧ q.2 121 b = ssum (σ 119) q.1 b) ∧ ∀ k, k ≠ 120 → k ≠ 121 → q.2 k = σ k) (fun q => [some (vR 117), some (vI (n : Int)), some (vI (q.1 : Int)), none, none]) (fun q => q.2) (fun q => n - q.1) (fun q hq ih => ?_) (0, up (up σ 120 0 0) 121 0 0) ⟨Nat.zero_le _, fun b hb => ?_, fun k a b => ?_⟩) rfl rfl rfl
  rotate_left
  · obtain rfl : b = 0 := by have : b < 2 ^ 0 := hb; omega
    exact ⟨show up (up σ 120 0 0) 121 0 0 120 ((0 : Nat) : Int) = _ from (up_ne1 (up σ 120 0 0) (k := 121) (k2 := 120) 0 0 0 (by decide)).trans (up_at σ 120 0 0), show up (up σ 120 0 0) 121 0 0 121 ((0 : Nat) : Int) = _ from up_at _ 121 0 0⟩
  · exact (up_row _ _ _ b).trans (up_row _ _ _ a)
  obtain ⟨t, τ⟩ := q
  obtain ⟨ht, hs, hf⟩ := hq
  dsimp only at ht hs hf ih ⊢
  refine V_R (fun hR => ?_)
  have ⟨p0, p1⟩ := p2N (show t ≤ 8 by omega)
  refine V_iload_n (pc := 20) C (dk k_C_addUp 12 rfl) rfl ?_
  refine V_iload_n (pc := 21) C (dk k_C_addUp 13 rfl) rfl ?_
  refine V_icmpge (pc := 22) C (dk k_C_addUp 14 rfl) 114 rfl (by first | exact hR _ _ | with_reducible assumption | exact ⟨by omega, by omega⟩) (by first | exact hR _ _ | with_reducible assumption | exact ⟨by omega, by omega⟩) (fun h1 => ?_) (fun h1 => ?_)
  · skip
    refine V_vret (pc := 114) C E (dk k_C_addUp 61 rfl) ?_
    obtain rfl : t = n := by omega
    exact ⟨rfl, hs, hf⟩
  · skip
    refine V_iload_n (pc := 25) C (dk k_C_addUp 15 rfl) rfl ?_
    refine V_bipush (pc := 26) (n' := 8) C (dk k_C_addUp 16 rfl) rfl ?_
    refine V_icmpge (pc := 28) C (dk k_C_addUp 17 rfl) 114 rfl (by first | exact hR _ _ | with_reducible assumption | exact ⟨by omega, by omega⟩) (by first | exact hR _ _ | with_reducible assumption | exact ⟨by omega, by omega⟩) (fun h2 => ?_) (fun h2 => ?_)
    · skip
      refine V_vret (pc := 114) C E (dk k_C_addUp 61 rfl) ?_
      obtain rfl : t = n := by omega
      exact ⟨rfl, hs, hf⟩
    · skip
      refine V_iconst (pc := 31) C (dk k_C_addUp 18 rfl) rfl ?_
      refine V_iload_n (pc := 32) C (dk k_C_addUp 19 rfl) rfl ?_
      refine V_ishl (pc := 33) C (dk k_C_addUp 20 rfl) (by omega) (by omega) (by omega) (by rw [p2I]; omega) ?_
      rw [p2I]
      refine V_istore_n (pc := 34) C (dk k_C_addUp 21 rfl) (by rw [hXN]; decide) ?_
      dsimp only [lst, lstL, lz, kill, Fin.val, Nat.reduceAdd]
      refine V_iconst (pc := 35) C (dk k_C_addUp 22 rfl) rfl ?_
      refine V_istore (pc := 36) C (dk k_C_addUp 23 rfl) (by rw [hXN]; decide) ?_
      dsimp only [lst, lstL, lz, kill, Fin.val, Nat.reduceAdd]
      refine V_eq (V_loop (fun q : Nat × Wd => q.1 ≤ 2 ^ t ∧ (∀ c : Nat, c < 2 ^ t + q.1 → q.2 120 c = ssum (σ 118) (t + 1) c ∧ q.2 121 c = ssum (σ 119) (t + 1) c) ∧ ∀ k, k ≠ 120 → k ≠ 121 → q.2 k = σ k) (fun q => [some (vR 117), some (vI (n : Int)), some (vI (t : Int)), some (vI ((2 ^ t : Nat) : Int)), some (vI (q.1 : Int))]) (fun q => q.2) (fun q => 2 ^ t - q.1) (fun q hq ih2 => ?_) (0, τ) ⟨Nat.zero_le _, fun c hc => by rw [ssum_lo _ (by dsimp only at hc; omega), ssum_lo _ (by dsimp only at hc; omega)]; exact hs c (by dsimp only at hc; omega), hf⟩) rfl rfl rfl
      obtain ⟨b, ρ⟩ := q
      obtain ⟨hb2, hs2, hf2⟩ := hq
      dsimp only at hb2 hs2 hf2 ih2 ⊢
      refine V_R (fun hR => ?_)
      refine V_iload (pc := 38) C (dk k_C_addUp 24 rfl) rfl ?_
      refine V_iload_n (pc := 40) C (dk k_C_addUp 25 rfl) rfl ?_
      refine V_icmpge (pc := 41) C (dk k_C_addUp 26 rfl) 108 rfl (by first | exact hR _ _ | with_reducible assumption | exact ⟨by omega, by omega⟩) (by first | exact hR _ _ | with_reducible assumption | exact ⟨by omega, by omega⟩) (fun h3 => ?_) (fun h3 => ?_)
      · skip
        refine V_iinc (pc := 108) C (dk k_C_addUp 59 rfl) (by rw [hXN]; decide) rfl ?_
        dsimp only [lst, lstL, lz, kill, Fin.val, Nat.reduceAdd]
        refine V_goto (pc := 111) C (dk k_C_addUp 60 rfl) 20 rfl ?_
        refine V_fg 3 ?_
        dsimp only [fg]
        refine V_fg 4 ?_
        dsimp only [fg]
        obtain rfl : b = 2 ^ t := by omega
        refine ih (t + 1, ρ) ⟨by dsimp only; omega, fun c hc => hs2 c (by rw [Nat.pow_succ] at hc; omega), hf2⟩ (by dsimp only; omega)
      · skip
        have p4 : 2 ^ t * 2 ≤ 256 := by have := (p2N (show t + 1 ≤ 8 by omega)).2; rwa [Nat.pow_succ] at this
        obtain ⟨g1, g2⟩ := hs2 b (by omega)
        rw [ssum_lo _ (by omega)] at g1
        rw [ssum_lo _ (by omega)] at g2
        obtain ⟨⟨b1, b2⟩, b3, b4⟩ := hb t (by omega) (by omega)
        have ⟨c1, c2⟩ := ssum_b (σ 118) 1000 (by omega) t b (fun u a d => (hb u a (by omega)).1)
        have ⟨c3, c4⟩ := ssum_b (σ 119) 1000 (by omega) t b (fun u a d => (hb u a (by omega)).2)
        have r118 : ρ 118 = σ 118 := hf2 118 (by decide) (by decide)
        have r119 : ρ 119 = σ 119 := hf2 119 (by decide) (by decide)
        refine V_aload_n (pc := 44) C (dk k_C_addUp 27 rfl) rfl ?_
        refine V_getr (pc := 45) (o2 := 120) C (dk k_C_addUp 28 rfl) fl_C_18 kq_117 (by decide) rfl (by decide) rfl ?_
        refine V_iload_n (pc := 48) C (dk k_C_addUp 29 rfl) rfl ?_
        refine V_iload (pc := 49) C (dk k_C_addUp 30 rfl) rfl ?_
        refine V_iadd (pc := 51) C (dk k_C_addUp 31 rfl) ?_
        refine V_aload_n (pc := 52) C (dk k_C_addUp 32 rfl) rfl ?_
        refine V_getr (pc := 53) (o2 := 120) C (dk k_C_addUp 33 rfl) fl_C_18 kq_117 (by decide) rfl (by decide) rfl ?_
        refine V_iload (pc := 56) C (dk k_C_addUp 34 rfl) rfl ?_
        refine V_callS (pc := 58) C (dk k_C_addUp 35 rfl) lk_C_45 cm_F_at sm_F_at (c_at _ _ _ (120) 256 (b : Int) kq_120 (by decide) (by omega) (by omega)) rfl rfl (Nat.le_of_ble_eq_true rfl) (Rm.mono hRm (by decide) (by decide)) ?_
        refine V_aload_n (pc := 61) C (dk k_C_addUp 36 rfl) rfl ?_
        refine V_getr (pc := 62) (o2 := 118) C (dk k_C_addUp 37 rfl) fl_C_9 kq_117 (by decide) rfl (by decide) rfl ?_
        refine V_iload_n (pc := 65) C (dk k_C_addUp 38 rfl) rfl ?_
        refine V_callS (pc := 66) C (dk k_C_addUp 39 rfl) lk_C_45 cm_F_at sm_F_at (c_at _ _ _ (118) 8 (t : Int) kq_118 (by decide) (by omega) (by omega)) rfl rfl (Nat.le_of_ble_eq_true rfl) (Rm.mono hRm (by decide) (by decide)) ?_
        rw [g1, r118]
        refine V_iadd (pc := 69) C (dk k_C_addUp 40 rfl) ?_
        refine V_callS0 (pc := 70) C (dk k_C_addUp 41 rfl) lk_C_24 cm_F_put sm_F_put (c_put _ _ _ (120) 256 (((2 ^ t : Nat) : Int) + (b : Int)) (ssum (σ 118) t b + σ 118 t) kq_120 (by decide) (by omega) (by omega) ⟨by omega, by omega⟩) rfl rfl (Nat.le_of_ble_eq_true rfl) (Rm.mono hRm (by decide) (by decide)) ?_
        refine V_R (fun hR => ?_)
        refine V_aload_n (pc := 73) C (dk k_C_addUp 42 rfl) rfl ?_
        refine V_getr (pc := 74) (o2 := 121) C (dk k_C_addUp 43 rfl) fl_C_21 kq_117 (by decide) rfl (by decide) rfl ?_
        refine V_iload_n (pc := 77) C (dk k_C_addUp 44 rfl) rfl ?_
        refine V_iload (pc := 78) C (dk k_C_addUp 45 rfl) rfl ?_
        refine V_iadd (pc := 80) C (dk k_C_addUp 46 rfl) ?_
        refine V_aload_n (pc := 81) C (dk k_C_addUp 47 rfl) rfl ?_
        refine V_getr (pc := 82) (o2 := 121) C (dk k_C_addUp 48 rfl) fl_C_21 kq_117 (by decide) rfl (by decide) rfl ?_
        refine V_iload (pc := 85) C (dk k_C_addUp 49 rfl) rfl ?_
        refine V_callS (pc := 87) C (dk k_C_addUp 50 rfl) lk_C_45 cm_F_at sm_F_at (c_at _ _ _ (121) 256 (b : Int) kq_121 (by decide) (by omega) (by omega)) rfl rfl (Nat.le_of_ble_eq_true rfl) (Rm.mono hRm (by decide) (by decide)) ?_
        refine V_aload_n (pc := 90) C (dk k_C_addUp 51 rfl) rfl ?_
        refine V_getr (pc := 91) (o2 := 119) C (dk k_C_addUp 52 rfl) fl_C_15 kq_117 (by decide) rfl (by decide) rfl ?_
        refine V_iload_n (pc := 94) C (dk k_C_addUp 53 rfl) rfl ?_
        refine V_callS (pc := 95) C (dk k_C_addUp 54 rfl) lk_C_45 cm_F_at sm_F_at (c_at _ _ _ (119) 8 (t : Int) kq_119 (by decide) (by omega) (by omega)) rfl rfl (Nat.le_of_ble_eq_true rfl) (Rm.mono hRm (by decide) (by decide)) ?_
        rw [show up ρ 120 ((2 ^ t : Nat) + (b : Int)) (ssum (σ 118) t b + σ 118 t) 121 = ρ 121 from up_row _ _ _ (by decide), show up ρ 120 ((2 ^ t : Nat) + (b : Int)) (ssum (σ 118) t b + σ 118 t) 119 = ρ 119 from up_row _ _ _ (by decide), g2, r119]
        refine V_iadd (pc := 98) C (dk k_C_addUp 55 rfl) ?_
        refine V_callS0 (pc := 99) C (dk k_C_addUp 56 rfl) lk_C_24 cm_F_put sm_F_put (c_put _ _ _ (121) 256 (((2 ^ t : Nat) : Int) + (b : Int)) (ssum (σ 119) t b + σ 119 t) kq_121 (by decide) (by omega) (by omega) ⟨by omega, by omega⟩) rfl rfl (Nat.le_of_ble_eq_true rfl) (Rm.mono hRm (by decide) (by decide)) ?_
        refine V_R (fun hR => ?_)
        refine V_iinc (pc := 102) C (dk k_C_addUp 57 rfl) (by rw [hXN]; decide) rfl ?_
        dsimp only [lst, lstL, lz, kill, Fin.val, Nat.reduceAdd]
        refine V_goto (pc := 105) C (dk k_C_addUp 58 rfl) 38 rfl ?_
        refine ih2 (b + 1, up (up ρ 120 (((2 ^ t : Nat) : Int) + (b : Int)) (ssum (σ 118) t b + σ 118 t)) 121 (((2 ^ t : Nat) : Int) + (b : Int)) (ssum (σ 119) t b + σ 119 t)) ⟨by dsimp only; omega, fun c hc => ?_, fun k a d => (up_row _ _ _ d).trans ((up_row _ _ _ a).trans (hf2 k a d))⟩ (by dsimp only; omega)
        dsimp only at hc ⊢
        rw [up_ne1 (k := 121) (k2 := 120) _ _ _ _ (by decide)]
        by_cases hcb : c = 2 ^ t + b
        · rw [hcb, show ((2 ^ t + b : Nat) : Int) = ((2 ^ t : Nat) : Int) + (b : Int) by omega, up_at, up_at, ssum_hi _ (by omega), ssum_hi _ (by omega)]
          exact ⟨rfl, rfl⟩
        · simp (disch := omega) only [up_ne1, up_ne2]
          exact hs2 c (by omega)

/-- b is a set of allowed things, its price from least to most -/
def okset (al : Nat) (P : Nat → Int) (le mo : Int) (b : Nat) : Bool := decide (b - (b &&& al) = 0) && decide (le ≤ P b ∧ P b ≤ mo)
theorem fnd_s (ok : Nat → Bool) (W : Nat → Int) (i : Nat) : fnd ok W (i + 1) = match fnd ok W i with
    | none => if ok i then some (i, W i) else none
    | some (s, v) => if ok i && decide (v < W i) then some (i, W i) else some (s, v) := rfl
theorem fnd_no {ok : Nat → Bool} {W : Nat → Int} {i : Nat} (h : ok i = false) : fnd ok W (i + 1) = fnd ok W i := by
  rw [fnd_s, h]
  cases fnd ok W i with
  | none => rfl
  | some q => rfl
theorem fnd_le {ok : Nat → Bool} {W : Nat → Int} {i s : Nat} {v : Int} (h : fnd ok W i = some (s, v)) (h2 : ¬ v < W i) : fnd ok W (i + 1) = fnd ok W i := by
  rw [fnd_s, h]
  show (if (ok i && decide (v < W i)) = true then _ else _) = _
  rw [decide_eq_false h2, Bool.and_false]; rfl
theorem fnd_yes {ok : Nat → Bool} {W : Nat → Int} {i : Nat} (h : ok i = true) (h2 : ∀ s v, fnd ok W i = some (s, v) → v < W i) : fnd ok W (i + 1) = some (i, W i) := by
  rw [fnd_s]
  cases hc : fnd ok W i with
  | none => show (if ok i = true then _ else _) = _; rw [if_pos h]
  | some q =>
    obtain ⟨s, v⟩ := q
    show (if (ok i && decide (v < W i)) = true then _ else _) = _
    rw [h, decide_eq_true (h2 s v hc)]; rfl

def i_C_find : List (Nat × (Instr × Nat)) := [(0, (.aload_n 0, 1)), (1, (.iload_n 1, 1)), (2, (.invokevirtual 28, 3)), (5, (.aload_n 0, 1)), (6, (.iconst 0, 1)), (7, (.putfield 32, 3)), (10, (.aload_n 0, 1)), (11, (.iconst 0, 1)), (12, (.putfield 36, 3)), (15, (.iconst 0, 1)), (16, (.istore 5, 2)), (18, (.iconst 1, 1)), (19, (.iload_n 1, 1)), (20, (.bipush 8, 2)), (22, (.invokestatic 39, 3)), (25, (.ishl, 1)), (26, (.istore 6, 2)), (28, (.iconst 0, 1)), (29, (.istore 7, 2)), (31, (.iload 7, 2)), (33, (.iload 6, 2)), (35, (.if_icmp .ge 79, 3)), (38, (.iload 7, 2)), (40, (.iload_n 2, 1)), (41, (.iconst (-1), 1)), (42, (.ixor, 1)), (43, (.iand, 1)), (44, (.ifCond .ne 64, 3)), (47, (.aload_n 0, 1)), (48, (.getfield 18, 3)), (51, (.iload 7, 2)), (53, (.invokestatic 45, 3)), (56, (.iload_n 3, 1)), (57, (.iload 4, 2)), (59, (.invokestatic 49, 3)), (62, (.ifCond .eq 46, 3)), (65, (.iload 5, 2)), (67, (.ifCond .eq 19, 3)), (70, (.aload_n 0, 1)), (71, (.getfield 21, 3)), (74, (.iload 7, 2)), (76, (.invokestatic 45, 3)), (79, (.aload_n 0, 1)), (80, (.getfield 36, 3)), (83, (.if_icmp .le 25, 3)), (86, (.iconst 1, 1)), (87, (.istore 5, 2)), (89, (.aload_n 0, 1)), (90, (.iload 7, 2)), (92, (.putfield 32, 3)), (95, (.aload_n 0, 1)), (96, (.aload_n 0, 1)), (97, (.getfield 21, 3)), (100, (.iload 7, 2)), (102, (.invokestatic 45, 3)), (105, (.putfield 36, 3)), (108, (.iinc 7 1, 3)), (111, (.goto (-80), 3)), (114, (.iload 5, 2)), (116, (.ireturn, 1))]
theorem k_C_find : i_C_find.all (fun q => decide (decode b_C_find q.1 = .ok q.2)) = true := by decide +kernel

set_option maxHeartbeats 1000000 in
set_option maxRecDepth 20000 in
theorem c_C_find (l : Launch) (G : GE) (σ : Wd) (n al : Nat) (le mo : Int) (hn : n ≤ 8) (hal : al < 256) (hle : inR le) (hmo : inR mo) (hb : ∀ t : Int, 0 ≤ t → t < n → (-1000 ≤ σ 118 t ∧ σ 118 t ≤ 1000) ∧ (-1000 ≤ σ 119 t ∧ σ 119 t ≤ 1000)) : Ct l G y_C_find b_C_find 8 (some (.boolean)) 2 46 [vR 117, vI (n : Int), vI (al : Int), vI le, vI mo] σ (Rt (some (vI (if (fnd (okset al (ssum (σ 118) n) le mo) (ssum (σ 119) n) (2 ^ n)).isSome = true then 1 else 0))) (fun σ' => (∀ s v, fnd (okset al (ssum (σ 118) n) le mo) (ssum (σ 119) n) (2 ^ n) = some (s, v) → σ' 117 4 = s ∧ σ' 117 5 = v) ∧ (fnd (okset al (ssum (σ 118) n) le mo) (ssum (σ 119) n) (2 ^ n) = none → σ' 117 4 = 0 ∧ σ' 117 5 = 0) ∧ ∀ k, (k < 117 ∨ 122 ≤ k) → σ' k = σ k)) := by
  refine Ct.of cm_C_find (Nat.le_of_ble_eq_true rfl) ?_
  intro X hXl hXG hXN hRm C E
  subst hXl; subst hXG
  have ⟨hle_1, hle_2⟩ := hle
  have ⟨hmo_1, hmo_2⟩ := hmo
  show V X 0 [some (vR 117), some (vI (n : Int)), some (vI (al : Int)), some (vI le), some (vI mo), none, none, none] [] σ
  refine V_R (fun hR => ?_)
  obtain ⟨F, hF⟩ : ∃ F, F = fnd (okset al (ssum (σ 118) n) le mo) (ssum (σ 119) n) := ⟨_, rfl⟩
  rw [← hF] at E
  have ⟨p0, p1⟩ := p2N hn
  refine V_aload_n (pc := 0) C (dk k_C_find 0 rfl) rfl ?_
  refine V_iload_n (pc := 1) C (dk k_C_find 1 rfl) rfl ?_
  refine V_callV0r (pc := 2) C (dk k_C_find 2 rfl) lk_C_28 cm_C_addUp vm_C_addUp (c_C_addUp _ _ _ n hn hb) kq_117 rfl rfl rfl (Nat.le_of_ble_eq_true rfl) (Rm.mono hRm (by decide) (by decide)) (fun τ1 hq1 => ?_)
  refine V_R (fun hR => ?_)
  obtain ⟨hs, hf⟩ := hq1
  refine V_aload_n (pc := 5) C (dk k_C_find 3 rfl) rfl ?_
  refine V_iconst (pc := 6) C (dk k_C_find 4 rfl) rfl ?_
  refine V_puti (pc := 7) (ji := 4) C (dk k_C_find 5 rfl) fl_C_32 fw_0_4 kq_117 (by decide) rfl rfl (by first | exact hR _ _ | with_reducible assumption | exact ⟨by omega, by omega⟩) ?_
  refine V_R (fun hR => ?_)
  refine V_aload_n (pc := 10) C (dk k_C_find 6 rfl) rfl ?_
  refine V_iconst (pc := 11) C (dk k_C_find 7 rfl) rfl ?_
  refine V_puti (pc := 12) (ji := 5) C (dk k_C_find 8 rfl) fl_C_36 fw_0_5 kq_117 (by decide) rfl rfl (by first | exact hR _ _ | with_reducible assumption | exact ⟨by omega, by omega⟩) ?_
  refine V_R (fun hR => ?_)
  refine V_iconst (pc := 15) C (dk k_C_find 9 rfl) rfl ?_
  refine V_istore (pc := 16) C (dk k_C_find 10 rfl) (by rw [hXN]; decide) ?_
  dsimp only [lst, lstL, lz, kill, Fin.val, Nat.reduceAdd]
  refine V_iconst (pc := 18) C (dk k_C_find 11 rfl) rfl ?_
  refine V_iload_n (pc := 19) C (dk k_C_find 12 rfl) rfl ?_
  refine V_bipush (pc := 20) (n' := 8) C (dk k_C_find 13 rfl) rfl ?_
  refine V_mmin (pc := 22) C (dk k_C_find 14 rfl) ml_C_39 (by first | exact ⟨by omega, by omega⟩ | assumption) (by first | exact ⟨by omega, by omega⟩ | assumption) (Nat.le_of_ble_eq_true rfl) (Rm.mono hRm (by decide) (by decide)) ?_
  rw [show min (n : Int) 8 = (n : Int) by omega]
  refine V_ishl (pc := 25) C (dk k_C_find 15 rfl) (by omega) (by omega) (by omega) (by rw [p2I]; omega) ?_
  rw [p2I]
  refine V_istore (pc := 26) C (dk k_C_find 16 rfl) (by rw [hXN]; decide) ?_
  dsimp only [lst, lstL, lz, kill, Fin.val, Nat.reduceAdd]
  refine V_iconst (pc := 28) C (dk k_C_find 17 rfl) rfl ?_
  refine V_istore (pc := 29) C (dk k_C_find 18 rfl) (by rw [hXN]; decide) ?_
  dsimp only [lst, lstL, lz, kill, Fin.val, Nat.reduceAdd]
  have h00 : ∀ (s : Nat) (v : Int), F 0 = some (s, v) → up (up τ1 117 4 0) 117 5 0 117 4 = s ∧ up (up τ1 117 4 0) 117 5 0 117 5 = v := fun s v h => by rw [hF] at h; cases h
  have h01 : F 0 = none → up (up τ1 117 4 0) 117 5 0 117 4 = 0 ∧ up (up τ1 117 4 0) 117 5 0 117 5 = 0 := fun _ => ⟨by rw [up_ne2 _ (by decide), up_at], up_at _ _ _ _⟩
  refine V_eq (V_loop (fun q : Nat × Wd => q.1 ≤ 2 ^ n ∧ (∀ (s : Nat) (v : Int), F q.1 = some (s, v) → q.2 117 4 = s ∧ q.2 117 5 = v) ∧ (F q.1 = none → q.2 117 4 = 0 ∧ q.2 117 5 = 0) ∧ ∀ k, k ≠ 117 → q.2 k = τ1 k) (fun q => [some (vR 117), some (vI (n : Int)), some (vI (al : Int)), some (vI le), some (vI mo), some (vI (if (F q.1).isSome = true then 1 else 0)), some (vI ((2 ^ n : Nat) : Int)), some (vI (q.1 : Int))]) (fun q => q.2) (fun q => 2 ^ n - q.1) (fun q hq ih => ?_) (0, up (up τ1 117 4 0) 117 5 0) ⟨Nat.zero_le _, h00, h01, fun k a => (up_row _ _ _ a).trans (up_row _ _ _ a)⟩) (by rw [hF]; rfl) rfl rfl
  obtain ⟨i, τ⟩ := q
  obtain ⟨hi, hv, hv0, hg⟩ := hq
  dsimp only at hi hv hv0 hg ih ⊢
  refine V_R (fun hR => ?_)
  refine V_iload (pc := 31) C (dk k_C_find 19 rfl) rfl ?_
  refine V_iload (pc := 33) C (dk k_C_find 20 rfl) rfl ?_
  refine V_icmpge (pc := 35) C (dk k_C_find 21 rfl) 114 rfl (by first | exact hR _ _ | with_reducible assumption | exact ⟨by omega, by omega⟩) (by first | exact hR _ _ | with_reducible assumption | exact ⟨by omega, by omega⟩) (fun h1 => ?_) (fun h1 => ?_)
  · skip
    refine V_iload (pc := 114) C (dk k_C_find 58 rfl) rfl ?_
    refine V_zret (pc := 116) C (by first | exact Or.inl rfl | exact Or.inr rfl | (split <;> first | exact Or.inl rfl | exact Or.inr rfl) | omega) E (dk k_C_find 59 rfl) ?_
    obtain rfl : i = 2 ^ n := by omega
    exact ⟨rfl, hv, hv0, fun k a => (hg k (by omega)).trans (hf k (by omega) (by omega))⟩
  · skip
    obtain ⟨s1, s2⟩ := hs i (by omega)
    have ⟨c1, c2⟩ := ssum_b (σ 118) 1000 (by omega) n i (fun u a d => (hb u a (by omega)).1)
    have ⟨c3, c4⟩ := ssum_b (σ 119) 1000 (by omega) n i (fun u a d => (hb u a (by omega)).2)
    have r120 : τ 120 = τ1 120 := hg 120 (by decide)
    have r121 : τ 121 = τ1 121 := hg 121 (by decide)
    have an : (i &&& al) ≤ i := Nat.and_le_left
    refine V_iload (pc := 38) C (dk k_C_find 22 rfl) rfl ?_
    refine V_iload_n (pc := 40) C (dk k_C_find 23 rfl) rfl ?_
    refine V_iconst (pc := 41) C (dk k_C_find 24 rfl) rfl ?_
    refine V_ixm1 (pc := 42) C (dk k_C_find 25 rfl) ?_
    refine V_iandn (pc := 43) C (dk k_C_find 26 rfl) ⟨by omega, by omega⟩ ⟨by omega, by omega⟩ (by omega) (by omega) ?_
    rw [Int.toNat_natCast, Int.toNat_natCast]
    refine V_ifne (pc := 44) C (dk k_C_find 27 rfl) 108 rfl (by first | exact hR _ _ | with_reducible assumption | exact ⟨by omega, by omega⟩) (fun h2 => ?_) (fun h2 => ?_)
    · skip
      refine V_iinc (pc := 108) C (dk k_C_find 56 rfl) (by rw [hXN]; decide) rfl ?_
      dsimp only [lst, lstL, lz, kill, Fin.val, Nat.reduceAdd]
      refine V_goto (pc := 111) C (dk k_C_find 57 rfl) 31 rfl ?_
      first | (have hz : F (i + 1) = F i := by (rw [hF]; first | exact fnd_no (by unfold okset; rw [Bool.and_eq_false_iff, decide_eq_false_iff_not, decide_eq_false_iff_not]; omega) | exact fnd_le (by rw [← hF]; exact hsv) (by omega)))  | (have hz : F (i + 1) = some (i, ssum (σ 119) n i) := by (rw [hF]; exact fnd_yes (by unfold okset; rw [Bool.and_eq_true, decide_eq_true_iff, decide_eq_true_iff]; omega) (by rw [← hF]; exact hy)))
      first | (refine V_eq (ih (i + 1, τ) ⟨by dsimp only; omega, fun s v h => hv s v (by rw [← hz]; exact h), fun h => hv0 (by rw [← hz]; exact h), hg⟩ (by dsimp only; omega)) ?_ rfl rfl; rw [hz]; rfl) | (refine V_eq (ih (i + 1, up (up τ 117 4 i) 117 5 (ssum (σ 119) n i)) ⟨by dsimp only; omega, fun s v h => ?_, fun h => by (dsimp only at h; rw [hz] at h; cases h), fun k a => (up_row _ _ _ a).trans ((up_row _ _ _ a).trans (hg k a))⟩ (by dsimp only; omega)) ?_ rfl rfl; (dsimp only at h ⊢; rw [hz] at h; cases h; exact ⟨by rw [up_ne2 _ (by decide), up_at], up_at _ _ _ _⟩); (rw [hz]; rfl))
    · skip
      refine V_aload_n (pc := 47) C (dk k_C_find 28 rfl) rfl ?_
      refine V_getr (pc := 48) (o2 := 120) C (dk k_C_find 29 rfl) fl_C_18 kq_117 (by decide) rfl (by decide) rfl ?_
      refine V_iload (pc := 51) C (dk k_C_find 30 rfl) rfl ?_
      refine V_callS (pc := 53) C (dk k_C_find 31 rfl) lk_C_45 cm_F_at sm_F_at (c_at _ _ _ (120) 256 (i : Int) kq_120 (by decide) (by omega) (by omega)) rfl rfl (Nat.le_of_ble_eq_true rfl) (Rm.mono hRm (by decide) (by decide)) ?_
      rw [r120, s1]
      refine V_iload_n (pc := 56) C (dk k_C_find 32 rfl) rfl ?_
      refine V_iload (pc := 57) C (dk k_C_find 33 rfl) rfl ?_
      refine V_callS (pc := 59) C (dk k_C_find 34 rfl) lk_C_49 cm_F_within sm_F_within (c_F_within _ _ _ (ssum (σ 118) n i) le mo ⟨by omega, by omega⟩ hle hmo) rfl rfl (Nat.le_of_ble_eq_true rfl) (Rm.mono hRm (by decide) (by decide)) ?_
      refine V_ifeqB (pc := 62) C (dk k_C_find 35 rfl) 108 rfl (fun h3 => ?_) (fun h3 => ?_)
      · skip
        refine V_iinc (pc := 108) C (dk k_C_find 56 rfl) (by rw [hXN]; decide) rfl ?_
        dsimp only [lst, lstL, lz, kill, Fin.val, Nat.reduceAdd]
        refine V_goto (pc := 111) C (dk k_C_find 57 rfl) 31 rfl ?_
        first | (have hz : F (i + 1) = F i := by (rw [hF]; first | exact fnd_no (by unfold okset; rw [Bool.and_eq_false_iff, decide_eq_false_iff_not, decide_eq_false_iff_not]; omega) | exact fnd_le (by rw [← hF]; exact hsv) (by omega)))  | (have hz : F (i + 1) = some (i, ssum (σ 119) n i) := by (rw [hF]; exact fnd_yes (by unfold okset; rw [Bool.and_eq_true, decide_eq_true_iff, decide_eq_true_iff]; omega) (by rw [← hF]; exact hy)))
        first | (refine V_eq (ih (i + 1, τ) ⟨by dsimp only; omega, fun s v h => hv s v (by rw [← hz]; exact h), fun h => hv0 (by rw [← hz]; exact h), hg⟩ (by dsimp only; omega)) ?_ rfl rfl; rw [hz]; rfl) | (refine V_eq (ih (i + 1, up (up τ 117 4 i) 117 5 (ssum (σ 119) n i)) ⟨by dsimp only; omega, fun s v h => ?_, fun h => by (dsimp only at h; rw [hz] at h; cases h), fun k a => (up_row _ _ _ a).trans ((up_row _ _ _ a).trans (hg k a))⟩ (by dsimp only; omega)) ?_ rfl rfl; (dsimp only at h ⊢; rw [hz] at h; cases h; exact ⟨by rw [up_ne2 _ (by decide), up_at], up_at _ _ _ _⟩); (rw [hz]; rfl))
      · skip
        refine V_iload (pc := 65) C (dk k_C_find 36 rfl) rfl ?_
        refine V_ifeqB (pc := 67) C (dk k_C_find 37 rfl) 86 rfl (fun h4 => ?_) (fun h4 => ?_)
        · skip
          have hy : ∀ s v, F i = some (s, v) → v < ssum (σ 119) n i := by first | exact (fun s v h => absurd (by rw [h]; rfl) h4) | exact (fun s v h => by rw [hsv] at h; cases h; omega)
          refine V_iconst (pc := 86) C (dk k_C_find 45 rfl) rfl ?_
          refine V_istore (pc := 87) C (dk k_C_find 46 rfl) (by rw [hXN]; decide) ?_
          dsimp only [lst, lstL, lz, kill, Fin.val, Nat.reduceAdd]
          refine V_aload_n (pc := 89) C (dk k_C_find 47 rfl) rfl ?_
          refine V_iload (pc := 90) C (dk k_C_find 48 rfl) rfl ?_
          refine V_puti (pc := 92) (ji := 4) C (dk k_C_find 49 rfl) fl_C_32 fw_0_4 kq_117 (by decide) rfl rfl (by first | exact hR _ _ | with_reducible assumption | exact ⟨by omega, by omega⟩) ?_
          refine V_R (fun hR => ?_)
          refine V_aload_n (pc := 95) C (dk k_C_find 50 rfl) rfl ?_
          refine V_aload_n (pc := 96) C (dk k_C_find 51 rfl) rfl ?_
          refine V_getr (pc := 97) (o2 := 121) C (dk k_C_find 52 rfl) fl_C_21 kq_117 (by decide) rfl (by decide) rfl ?_
          refine V_iload (pc := 100) C (dk k_C_find 53 rfl) rfl ?_
          refine V_callS (pc := 102) C (dk k_C_find 54 rfl) lk_C_45 cm_F_at sm_F_at (c_at _ _ _ (121) 256 (i : Int) kq_121 (by decide) (by omega) (by omega)) rfl rfl (Nat.le_of_ble_eq_true rfl) (Rm.mono hRm (by decide) (by decide)) ?_
          rw [show up τ 117 4 (i : Int) 121 = τ 121 from up_row _ _ _ (by decide), r121, s2]
          refine V_puti (pc := 105) (ji := 5) C (dk k_C_find 55 rfl) fl_C_36 fw_0_5 kq_117 (by decide) rfl rfl (by first | exact hR _ _ | with_reducible assumption | exact ⟨by omega, by omega⟩) ?_
          refine V_R (fun hR => ?_)
          refine V_iinc (pc := 108) C (dk k_C_find 56 rfl) (by rw [hXN]; decide) rfl ?_
          dsimp only [lst, lstL, lz, kill, Fin.val, Nat.reduceAdd]
          refine V_goto (pc := 111) C (dk k_C_find 57 rfl) 31 rfl ?_
          first | (have hz : F (i + 1) = F i := by (rw [hF]; first | exact fnd_no (by unfold okset; rw [Bool.and_eq_false_iff, decide_eq_false_iff_not, decide_eq_false_iff_not]; omega) | exact fnd_le (by rw [← hF]; exact hsv) (by omega)))  | (have hz : F (i + 1) = some (i, ssum (σ 119) n i) := by (rw [hF]; exact fnd_yes (by unfold okset; rw [Bool.and_eq_true, decide_eq_true_iff, decide_eq_true_iff]; omega) (by rw [← hF]; exact hy)))
          first | (refine V_eq (ih (i + 1, τ) ⟨by dsimp only; omega, fun s v h => hv s v (by rw [← hz]; exact h), fun h => hv0 (by rw [← hz]; exact h), hg⟩ (by dsimp only; omega)) ?_ rfl rfl; rw [hz]; rfl) | (refine V_eq (ih (i + 1, up (up τ 117 4 i) 117 5 (ssum (σ 119) n i)) ⟨by dsimp only; omega, fun s v h => ?_, fun h => by (dsimp only at h; rw [hz] at h; cases h), fun k a => (up_row _ _ _ a).trans ((up_row _ _ _ a).trans (hg k a))⟩ (by dsimp only; omega)) ?_ rfl rfl; (dsimp only at h ⊢; rw [hz] at h; cases h; exact ⟨by rw [up_ne2 _ (by decide), up_at], up_at _ _ _ _⟩); (rw [hz]; rfl))
        · skip
          obtain ⟨⟨s0, v0⟩, hsv⟩ := Option.isSome_iff_exists.mp h4
          obtain ⟨v1, v2⟩ := hv s0 v0 hsv
          refine V_aload_n (pc := 70) C (dk k_C_find 38 rfl) rfl ?_
          refine V_getr (pc := 71) (o2 := 121) C (dk k_C_find 39 rfl) fl_C_21 kq_117 (by decide) rfl (by decide) rfl ?_
          refine V_iload (pc := 74) C (dk k_C_find 40 rfl) rfl ?_
          refine V_callS (pc := 76) C (dk k_C_find 41 rfl) lk_C_45 cm_F_at sm_F_at (c_at _ _ _ (121) 256 (i : Int) kq_121 (by decide) (by omega) (by omega)) rfl rfl (Nat.le_of_ble_eq_true rfl) (Rm.mono hRm (by decide) (by decide)) ?_
          rw [r121, s2]
          refine V_aload_n (pc := 79) C (dk k_C_find 42 rfl) rfl ?_
          refine V_geti (pc := 80) (ji := 5) C (dk k_C_find 43 rfl) fl_C_36 kq_117 (by decide) rfl rfl ?_
          refine V_icmple (pc := 83) C (dk k_C_find 44 rfl) 108 rfl (by first | exact hR _ _ | with_reducible assumption | exact ⟨by omega, by omega⟩) (by first | exact hR _ _ | with_reducible assumption | exact ⟨by omega, by omega⟩) (fun h5 => ?_) (fun h5 => ?_)
          · skip
            refine V_iinc (pc := 108) C (dk k_C_find 56 rfl) (by rw [hXN]; decide) rfl ?_
            dsimp only [lst, lstL, lz, kill, Fin.val, Nat.reduceAdd]
            refine V_goto (pc := 111) C (dk k_C_find 57 rfl) 31 rfl ?_
            first | (have hz : F (i + 1) = F i := by (rw [hF]; first | exact fnd_no (by unfold okset; rw [Bool.and_eq_false_iff, decide_eq_false_iff_not, decide_eq_false_iff_not]; omega) | exact fnd_le (by rw [← hF]; exact hsv) (by omega)))  | (have hz : F (i + 1) = some (i, ssum (σ 119) n i) := by (rw [hF]; exact fnd_yes (by unfold okset; rw [Bool.and_eq_true, decide_eq_true_iff, decide_eq_true_iff]; omega) (by rw [← hF]; exact hy)))
            first | (refine V_eq (ih (i + 1, τ) ⟨by dsimp only; omega, fun s v h => hv s v (by rw [← hz]; exact h), fun h => hv0 (by rw [← hz]; exact h), hg⟩ (by dsimp only; omega)) ?_ rfl rfl; rw [hz]; rfl) | (refine V_eq (ih (i + 1, up (up τ 117 4 i) 117 5 (ssum (σ 119) n i)) ⟨by dsimp only; omega, fun s v h => ?_, fun h => by (dsimp only at h; rw [hz] at h; cases h), fun k a => (up_row _ _ _ a).trans ((up_row _ _ _ a).trans (hg k a))⟩ (by dsimp only; omega)) ?_ rfl rfl; (dsimp only at h ⊢; rw [hz] at h; cases h; exact ⟨by rw [up_ne2 _ (by decide), up_at], up_at _ _ _ _⟩); (rw [hz]; rfl))
          · skip
            have hy : ∀ s v, F i = some (s, v) → v < ssum (σ 119) n i := by first | exact (fun s v h => absurd (by rw [h]; rfl) h4) | exact (fun s v h => by rw [hsv] at h; cases h; omega)
            refine V_iconst (pc := 86) C (dk k_C_find 45 rfl) rfl ?_
            refine V_istore (pc := 87) C (dk k_C_find 46 rfl) (by rw [hXN]; decide) ?_
            dsimp only [lst, lstL, lz, kill, Fin.val, Nat.reduceAdd]
            refine V_aload_n (pc := 89) C (dk k_C_find 47 rfl) rfl ?_
            refine V_iload (pc := 90) C (dk k_C_find 48 rfl) rfl ?_
            refine V_puti (pc := 92) (ji := 4) C (dk k_C_find 49 rfl) fl_C_32 fw_0_4 kq_117 (by decide) rfl rfl (by first | exact hR _ _ | with_reducible assumption | exact ⟨by omega, by omega⟩) ?_
            refine V_R (fun hR => ?_)
            refine V_aload_n (pc := 95) C (dk k_C_find 50 rfl) rfl ?_
            refine V_aload_n (pc := 96) C (dk k_C_find 51 rfl) rfl ?_
            refine V_getr (pc := 97) (o2 := 121) C (dk k_C_find 52 rfl) fl_C_21 kq_117 (by decide) rfl (by decide) rfl ?_
            refine V_iload (pc := 100) C (dk k_C_find 53 rfl) rfl ?_
            refine V_callS (pc := 102) C (dk k_C_find 54 rfl) lk_C_45 cm_F_at sm_F_at (c_at _ _ _ (121) 256 (i : Int) kq_121 (by decide) (by omega) (by omega)) rfl rfl (Nat.le_of_ble_eq_true rfl) (Rm.mono hRm (by decide) (by decide)) ?_
            rw [show up τ 117 4 (i : Int) 121 = τ 121 from up_row _ _ _ (by decide), r121, s2]
            refine V_puti (pc := 105) (ji := 5) C (dk k_C_find 55 rfl) fl_C_36 fw_0_5 kq_117 (by decide) rfl rfl (by first | exact hR _ _ | with_reducible assumption | exact ⟨by omega, by omega⟩) ?_
            refine V_R (fun hR => ?_)
            refine V_iinc (pc := 108) C (dk k_C_find 56 rfl) (by rw [hXN]; decide) rfl ?_
            dsimp only [lst, lstL, lz, kill, Fin.val, Nat.reduceAdd]
            refine V_goto (pc := 111) C (dk k_C_find 57 rfl) 31 rfl ?_
            first | (have hz : F (i + 1) = F i := by (rw [hF]; first | exact fnd_no (by unfold okset; rw [Bool.and_eq_false_iff, decide_eq_false_iff_not, decide_eq_false_iff_not]; omega) | exact fnd_le (by rw [← hF]; exact hsv) (by omega)))  | (have hz : F (i + 1) = some (i, ssum (σ 119) n i) := by (rw [hF]; exact fnd_yes (by unfold okset; rw [Bool.and_eq_true, decide_eq_true_iff, decide_eq_true_iff]; omega) (by rw [← hF]; exact hy)))
            first | (refine V_eq (ih (i + 1, τ) ⟨by dsimp only; omega, fun s v h => hv s v (by rw [← hz]; exact h), fun h => hv0 (by rw [← hz]; exact h), hg⟩ (by dsimp only; omega)) ?_ rfl rfl; rw [hz]; rfl) | (refine V_eq (ih (i + 1, up (up τ 117 4 i) 117 5 (ssum (σ 119) n i)) ⟨by dsimp only; omega, fun s v h => ?_, fun h => by (dsimp only at h; rw [hz] at h; cases h), fun k a => (up_row _ _ _ a).trans ((up_row _ _ _ a).trans (hg k a))⟩ (by dsimp only; omega)) ?_ rfl rfl; (dsimp only at h ⊢; rw [hz] at h; cases h; exact ⟨by rw [up_ne2 _ (by decide), up_at], up_at _ _ _ _⟩); (rw [hz]; rfl))
