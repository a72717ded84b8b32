theorem sellZ_ok {π : PL} {x : ST} {j t : Int} (ok : PLok π) (xk : STok π x j) (h0 : 0 ≤ t) (h1 : t < pN π) (hp : sP x t = 0) (hm : prc π x t ≤ sM x) : STok π (sellX π x t) (j + 1) := by
  have ⟨p0, p1⟩ := prc_b ok xk h0 h1
  obtain ⟨a1, a2, a3, a4, aQ, aT⟩ := xk
  refine ⟨a1, ?_, ?_, ?_, fun q u v => ?_, fun s u v => ?_⟩
  · show sD x ≤ _; omega
  · show 0 ≤ sM x - prc π x t; omega
  · show sM x - prc π x t ≤ _; omega
  · obtain ⟨g1, g2, g3, g4⟩ := aQ q u v
    refine ⟨?_, ?_, g3, g4⟩
    · show 0 ≤ fu (sG x) (pO π t) (sG x (pO π t) + prc π x t) q
      unfold fu; split
      · rename_i e; subst e; omega
      · exact g1
    · show fu (sG x) (pO π t) (sG x (pO π t) + prc π x t) q ≤ _
      unfold fu; split
      · rename_i e; subst e; omega
      · omega
  · obtain ⟨g1, g2, g3, g4, g5⟩ := aT s u v
    refine ⟨g1, g2, ?_⟩
    show 0 ≤ fu (sP x) t 1 s ∧ fu (sP x) t 1 s ≤ 2 ∧ (fu (sP x) t 1 s = 2 ↔ sN x s = 0)
    unfold fu; split
    · rename_i e; subst e; omega
    · omega
theorem buyZ_ok {π : PL} {x : ST} {j t : Int} (ok : PLok π) (xk : STok π x j) (h0 : 0 ≤ t) (h1 : t < pN π) (hp : sP x t = 1) (hm : prc π x t ≤ sG x (pO π t)) : STok π (buyX π x t) (j + 1) := by
  have ⟨p0, p1⟩ := prc_b ok xk h0 h1
  obtain ⟨a1, a2, a3, a4, aQ, aT⟩ := xk
  refine ⟨a1, ?_, ?_, ?_, fun q u v => ?_, fun s u v => ?_⟩
  · show sD x ≤ _; omega
  · show 0 ≤ sM x + prc π x t; omega
  · show sM x + prc π x t ≤ _; omega
  · obtain ⟨g1, g2, g3, g4⟩ := aQ q u v
    refine ⟨?_, ?_, g3, g4⟩
    · show 0 ≤ fu (sG x) (pO π t) (sG x (pO π t) - prc π x t) q
      unfold fu; split
      · rename_i e; subst e; omega
      · exact g1
    · show fu (sG x) (pO π t) (sG x (pO π t) - prc π x t) q ≤ _
      unfold fu; split
      · rename_i e; subst e; omega
      · omega
  · obtain ⟨g1, g2, g3, g4, g5⟩ := aT s u v
    refine ⟨g1, g2, ?_⟩
    show 0 ≤ fu (sP x) t 0 s ∧ fu (sP x) t 0 s ≤ 2 ∧ (fu (sP x) t 0 s = 2 ↔ sN x s = 0)
    unfold fu; split
    · rename_i e; subst e; omega
    · omega
theorem bs_tb (c : Int → Bool) : ∀ n k : Nat, (bs c n).toNat.testBit k = (decide (k < n) && c k)
  | 0, k => by simp [bs, sm]
  | n + 1, k => by
    have ih := bs_tb c n
    obtain ⟨h1, h2⟩ := bs_b c n
    obtain ⟨b, hb⟩ := Int.eq_ofNat_of_zero_le h1
    have h3 : b < 2 ^ n := by
      have : ((b : Nat) : Int) < ((2 ^ n : Nat) : Int) := by rw [Int.natCast_pow, ← hb]; exact h2
      omega
    rw [bs_s, hb]
    have ihk := ih k
    rw [hb, Int.toNat_natCast] at ihk
    by_cases hc : c n = true
    · rw [if_pos hc, show ((b : Int) + 2 ^ n).toNat = 2 ^ n + b by
        have : (2 : Int) ^ n = ((2 ^ n : Nat) : Int) := by rw [Int.natCast_pow]; rfl
        rw [this]; omega]
      by_cases hk : k < n
      · rw [Nat.testBit_two_pow_add_gt hk, ihk, decide_eq_true hk, decide_eq_true (show k < n + 1 by omega)]
      · by_cases hk2 : k = n
        · subst hk2
          rw [Nat.testBit_two_pow_add_eq, Nat.testBit_lt_two_pow h3, hc, decide_eq_true (show k < k + 1 by omega)]; rfl
        · rw [decide_eq_false (show ¬ k < n + 1 by omega), Bool.false_and]
          apply Nat.testBit_lt_two_pow
          have := Nat.pow_le_pow_right (show 0 < 2 by decide) (show n + 1 ≤ k by omega)
          rw [Nat.pow_succ] at this
          omega
    · rw [if_neg hc, Int.add_zero, Int.toNat_natCast, ihk]
      by_cases hk2 : k = n
      · subst hk2
        rw [decide_eq_false (show ¬ k < k by omega), Bool.eq_false_iff.mpr hc, Bool.and_false, Bool.and_false]
      · congr 1
        by_cases hk : k < n
        · rw [decide_eq_true hk, decide_eq_true (show k < n + 1 by omega)]
        · rw [decide_eq_false hk, decide_eq_false (show ¬ k < n + 1 by omega)]
theorem sm_s (f : Int → Int) (n : Nat) : sm f (n + 1) = sm f n + f n := rfl
theorem sm_cut (f : Int → Int) {n : Nat} : ∀ m : Nat, n ≤ m → sm (fun t => if t < (n : Int) then f t else 0) m = sm f n
  | 0, h => by obtain rfl : n = 0 := by omega
               rfl
  | m + 1, h => by
    by_cases hm : n = m + 1
    · subst hm
      exact sm_cg _ _ _ (fun t a b => if_pos b)
    · rw [sm_s, sm_cut f m (by omega), if_neg (by omega), Int.add_zero]
theorem cnt_bs (c : Int → Bool) (n : Nat) : ∀ m : Nat, cnt (bs c n).toNat m = sm (fun t => if t < (n : Int) then (if c t = true then 1 else 0) else 0) m
  | 0 => rfl
  | m + 1 => by
    rw [sm_s, ← cnt_bs c n m, cnt, bs_tb]
    congr 1
    by_cases h : m < n
    · rw [decide_eq_true h, Bool.true_and, if_pos (show (m : Int) < n by omega)]
    · rw [decide_eq_false h, Bool.false_and, if_neg (show ¬ (m : Int) < n by omega)]; rfl
theorem cnt_bs8 (c : Int → Bool) {n : Nat} (h : n ≤ 8) : cnt (bs c n).toNat 8 = sm (fun t => if c t = true then 1 else 0) n := by
  rw [cnt_bs]; exact sm_cut _ 8 h
theorem cnt_dec (f : Int → Int) (k : Int) {n : Nat} (h : n ≤ 8) : cnt (bs (fun t => decide (f t = k)) n).toNat 8 = sm (fun t => if f t = k then 1 else 0) n := by
  rw [cnt_bs8 _ h]
  exact sm_cg _ _ _ (fun t _ _ => by
    by_cases hh : f t = k
    · rw [if_pos hh, if_pos (decide_eq_true hh)]
    · rw [if_neg hh, if_neg (fun z => hh (of_decide_eq_true z))])

theorem TxM.add {σ : Wd} {tx : List Int} {c : Int} (h : TxM σ tx) (h0 : 32 ≤ c) (h1 : c ≤ 126) (h2 : tx.length < 200) : TxM (up (up σ 140 (tx.length : Int) c) 128 19 ((tx.length : Int) + 1)) (tx ++ [c]) := by
  obtain ⟨t1, t2, t3⟩ := h
  refine ⟨by rw [up_at, List.length_append]; rfl, by rw [List.length_append, List.length_singleton]; omega, fun k z hk => ?_⟩
  rw [up_ne1 _ _ _ _ (by decide)]
  by_cases hl : k < tx.length
  · rw [List.getElem?_append_left hl] at hk
    rw [up_ne2 _ (by omega)]
    exact t3 k z hk
  · rw [List.getElem?_append_right (by omega)] at hk
    have hz : k - tx.length = 0 := by
      have := (List.getElem?_eq_some_iff.mp hk).1
      simp at this; omega
    rw [hz] at hk
    simp at hk
    subst hk
    rw [show (k : Int) = (tx.length : Int) by omega, up_at]
    exact ⟨rfl, h0, h1⟩
theorem LkM.add {σ : Wd} {lk : List (Int × (Int × Int))} {t n v : Int} (h : LkM σ lk) (hn0 : 0 ≤ n) (hn1 : n ≤ 20) (hv0 : 0 ≤ v) (hv1 : v ≤ 99) (h2 : lk.length < 6) : LkM (up (up (up (up σ 137 (lk.length : Int) t) 138 (lk.length : Int) n) 139 (lk.length : Int) v) 128 14 ((lk.length : Int) + 1)) (lk ++ [(t, (n, v))]) := by
  obtain ⟨t1, t2, t3⟩ := h
  refine ⟨by rw [up_at, List.length_append]; rfl, by rw [List.length_append, List.length_singleton]; omega, fun k z hk => ?_⟩
  by_cases hl : k < lk.length
  · rw [List.getElem?_append_left hl] at hk
    have := t3 k z hk
    simp (disch := omega) only [up_ne1, up_ne2]
    exact this
  · rw [List.getElem?_append_right (by omega)] at hk
    have hz : k - lk.length = 0 := by
      have := (List.getElem?_eq_some_iff.mp hk).1
      simp at this; omega
    rw [hz] at hk
    simp at hk
    subst hk
    rw [show (k : Int) = (lk.length : Int) by omega]
    simp (disch := omega) only [up_ne1, up_at]
    exact ⟨trivial, trivial, trivial, hn0, hn1, hv0, hv1⟩

def i_Z_write : List (Nat × (Instr × Nat)) := [(0, (.iload_n 1, 1)), (1, (.bipush 32, 2)), (3, (.bipush 126, 2)), (5, (.invokestatic 93, 3)), (8, (.ifCond .ne 5, 3)), (11, (.iconst (-1), 1)), (12, (.ireturn, 1)), (13, (.aload_n 0, 1)), (14, (.getfield 97, 3)), (17, (.sipush 200, 3)), (20, (.if_icmp .ne 6, 3)), (23, (.bipush (-3), 2)), (25, (.ireturn, 1)), (26, (.aload_n 0, 1)), (27, (.getfield 43, 3)), (30, (.aload_n 0, 1)), (31, (.getfield 97, 3)), (34, (.iload_n 1, 1)), (35, (.iastore, 1)), (36, (.aload_n 0, 1)), (37, (.dup, 1)), (38, (.getfield 97, 3)), (41, (.iconst 1, 1)), (42, (.iadd, 1)), (43, (.putfield 97, 3)), (46, (.aload_n 0, 1)), (47, (.getfield 97, 3)), (50, (.ireturn, 1))]
theorem k_Z_write : i_Z_write.all (fun q => decide (decode b_Z_write q.1 = .ok q.2)) = true := by decide +kernel

set_option maxHeartbeats 1000000 in
set_option maxRecDepth 20000 in
theorem c_Z_write (l : Launch) (G : GE) (σ : Wd) (π : PL) (x : ST) (us ks : List ST) (lk : List (Int × (Int × Int))) (tx : List Int) (j : Int) (hC : MR σ π x us ks lk tx) (hV : VK π x us ks j) (hj : j ≤ 100) (c : Int) (hc : inR c) : Ct l G y_Z_write b_Z_write 2 (some (.int)) 1 22 [vR 128, vI c] σ (Rt (some (vI ((o_write tx c).1))) (fun σ' => MR σ' π x us ks lk (o_write tx c).2 ∧ Fm σ σ')) := by
  refine Ct.of cm_Z_write (Nat.le_of_ble_eq_true rfl) ?_
  intro X hXl hXG hXN hRm C E
  subst hXl; subst hXG
  have ⟨hc_1, hc_2⟩ := hc
  show V X 0 [some (vR 128), some (vI c)] [] σ
  refine V_R (fun hR => ?_)
  obtain ⟨hπ, hx, hU, hK, hl, hT⟩ := id hC
  obtain ⟨ok, xk, usk, ksk, ks2⟩ := id hV
  have hπ0 := hπ
  obtain ⟨e0, e1, e2, e3, eT, eX⟩ := hπ
  have ⟨k1, k2, k3, k4, k5, k6, kT, kX⟩ := ok
  have hx0 := hx
  obtain ⟨f0, f1, fQ, fT⟩ := hx
  have ⟨x1, x2, x3, x4, xQ, xT⟩ := xk
  obtain ⟨t1, t2, t3⟩ := id hT
  refine V_iload_n (pc := 0) C (dk k_Z_write 0 rfl) rfl ?_
  refine V_bipush (pc := 1) (n' := 32) C (dk k_Z_write 1 rfl) rfl ?_
  refine V_bipush (pc := 3) (n' := 126) C (dk k_Z_write 2 rfl) rfl ?_
  refine V_callS (pc := 5) C (dk k_Z_write 3 rfl) lk_Z_93 cm_Z_in sm_Z_in (c_Z_in _ _ _ c 32 126 hc ⟨by decide, by decide⟩ ⟨by decide, by decide⟩) rfl rfl (Nat.le_of_ble_eq_true rfl) (Rm.mono hRm (by decide) (by decide)) ?_
  refine V_ifneB (pc := 8) C (dk k_Z_write 4 rfl) 13 rfl (fun h1 => ?_) (fun h1 => ?_)
  · skip
    refine V_aload_n (pc := 13) C (dk k_Z_write 7 rfl) rfl ?_
    refine V_geti (pc := 14) (ji := 19) C (dk k_Z_write 8 rfl) fl_Z_97 kq_128 (by decide) rfl rfl ?_
    refine V_sipush (pc := 17) (n' := 200) C (dk k_Z_write 9 rfl) rfl ?_
    refine V_icmpne (pc := 20) C (dk k_Z_write 10 rfl) 26 rfl (by first | exact hR _ _ | with_reducible assumption | exact ⟨by omega, by omega⟩) (by first | exact hR _ _ | with_reducible assumption | exact ⟨by omega, by omega⟩) (fun h2 => ?_) (fun h2 => ?_)
    · skip
      refine V_aload_n (pc := 26) C (dk k_Z_write 13 rfl) rfl ?_
      refine V_getr (pc := 27) (o2 := 140) C (dk k_Z_write 14 rfl) fl_Z_43 kq_128 (by decide) rfl (by decide) rfl ?_
      refine V_aload_n (pc := 30) C (dk k_Z_write 15 rfl) rfl ?_
      refine V_geti (pc := 31) (ji := 19) C (dk k_Z_write 16 rfl) fl_Z_97 kq_128 (by decide) rfl rfl ?_
      refine V_iload_n (pc := 34) C (dk k_Z_write 17 rfl) rfl ?_
      rw [t1]
      refine V_iast (pc := 35) C (dk k_Z_write 18 rfl) kq_140 (by decide) (by omega) (by omega) hc ?_
      refine V_R (fun hR => ?_)
      refine V_aload_n (pc := 36) C (dk k_Z_write 19 rfl) rfl ?_
      refine V_dupR (pc := 37) C (dk k_Z_write 20 rfl) ?_
      refine V_geti (pc := 38) (ji := 19) C (dk k_Z_write 21 rfl) fl_Z_97 kq_128 (by decide) rfl rfl ?_
      rw [show up σ 140 (tx.length : Int) c 128 19 = (tx.length : Int) from (up_ne1 _ _ _ _ (by decide)).trans t1]
      refine V_iconst (pc := 41) C (dk k_Z_write 22 rfl) rfl ?_
      refine V_iadd (pc := 42) C (dk k_Z_write 23 rfl) ?_
      refine V_puti (pc := 43) (ji := 19) C (dk k_Z_write 24 rfl) fl_Z_97 fw_9_19 kq_128 (by decide) rfl rfl ⟨by omega, by omega⟩ ?_
      refine V_R (fun hR => ?_)
      refine V_aload_n (pc := 46) C (dk k_Z_write 25 rfl) rfl ?_
      refine V_geti (pc := 47) (ji := 19) C (dk k_Z_write 26 rfl) fl_Z_97 kq_128 (by decide) rfl rfl ?_
      refine V_iret (pc := 50) C E (dk k_Z_write 27 rfl) ?_
      rw [show o_write tx c = ((tx.length : Int) + 1, tx ++ [c]) by unfold o_write; rw [if_pos (by omega), if_pos (by omega)]]
      have f : ∀ (k : Nat) (i : Int), k ≠ 140 → ¬ (k = 128 ∧ i = 19) → up (up σ 140 (tx.length : Int) c) 128 19 ((tx.length : Int) + 1) k i = σ k i := fun k i a b => by rw [up_off _ _ b, up_ne1 _ _ _ _ a]
      exact ⟨by rw [up_at], ⟨hπ0.fx (fun k i a => f k i (by omega) (by omega)), hx0.fx (fun k i a => f k i (by omega) (by omega)), hU.fx ok (fun k i a => f k i (by omega) (by omega)), hK.fx ok (fun k i a => f k i (by omega) (by omega)), hl.fx (fun k i a => f k i (by omega) (by omega)), hT.add (by omega) (by omega) (by omega)⟩, Fm.of (fun k i a => f k i (by omega) (by omega))⟩
    · skip
      refine V_bipush (pc := 23) (n' := (-3)) C (dk k_Z_write 11 rfl) rfl ?_
      refine V_iret (pc := 25) C E (dk k_Z_write 12 rfl) ?_
      rw [show o_write tx c = (-3, tx) by unfold o_write; rw [if_pos (by omega), if_neg (by omega)]]
      exact ⟨rfl, hC, Fm.rf σ⟩
  · skip
    refine V_iconst (pc := 11) C (dk k_Z_write 5 rfl) rfl ?_
    refine V_iret (pc := 12) C E (dk k_Z_write 6 rfl) ?_
    rw [show o_write tx c = (-1, tx) from if_neg (by omega)]
    exact ⟨rfl, hC, Fm.rf σ⟩

def i_Z_wipe : List (Nat × (Instr × Nat)) := [(0, (.aload_n 0, 1)), (1, (.getfield 97, 3)), (4, (.istore_n 1, 1)), (5, (.aload_n 0, 1)), (6, (.iconst 0, 1)), (7, (.putfield 97, 3)), (10, (.iload_n 1, 1)), (11, (.ireturn, 1))]
theorem k_Z_wipe : i_Z_wipe.all (fun q => decide (decode b_Z_wipe q.1 = .ok q.2)) = true := by decide +kernel

set_option maxHeartbeats 1000000 in
set_option maxRecDepth 20000 in
theorem c_Z_wipe (l : Launch) (G : GE) (σ : Wd) (π : PL) (x : ST) (us ks : List ST) (lk : List (Int × (Int × Int))) (tx : List Int) (j : Int) (hC : MR σ π x us ks lk tx) (hV : VK π x us ks j) (hj : j ≤ 100) : Ct l G y_Z_wipe b_Z_wipe 2 (some (.int)) 0 0 [vR 128] σ (Rt (some (vI (tx.length))) (fun σ' => MR σ' π x us ks lk [] ∧ Fm σ σ')) := by
  refine Ct.of cm_Z_wipe (Nat.le_of_ble_eq_true rfl) ?_
  intro X hXl hXG hXN hRm C E
  subst hXl; subst hXG
  show V X 0 [some (vR 128), none] [] σ
  refine V_R (fun hR => ?_)
  obtain ⟨hπ, hx, hU, hK, hl, hT⟩ := id hC
  obtain ⟨ok, xk, usk, ksk, ks2⟩ := id hV
  have hπ0 := hπ
  obtain ⟨e0, e1, e2, e3, eT, eX⟩ := hπ
  have ⟨k1, k2, k3, k4, k5, k6, kT, kX⟩ := ok
  have hx0 := hx
  obtain ⟨f0, f1, fQ, fT⟩ := hx
  have ⟨x1, x2, x3, x4, xQ, xT⟩ := xk
  obtain ⟨t1, t2, t3⟩ := id hT
  refine V_aload_n (pc := 0) C (dk k_Z_wipe 0 rfl) rfl ?_
  refine V_geti (pc := 1) (ji := 19) C (dk k_Z_wipe 1 rfl) fl_Z_97 kq_128 (by decide) rfl rfl ?_
  refine V_istore_n (pc := 4) C (dk k_Z_wipe 2 rfl) (by rw [hXN]; decide) ?_
  dsimp only [lst, lstL, lz, kill, Fin.val, Nat.reduceAdd]
  refine V_aload_n (pc := 5) C (dk k_Z_wipe 3 rfl) rfl ?_
  refine V_iconst (pc := 6) C (dk k_Z_wipe 4 rfl) rfl ?_
  refine V_puti (pc := 7) (ji := 19) C (dk k_Z_wipe 5 rfl) fl_Z_97 fw_9_19 kq_128 (by decide) rfl rfl R0 ?_
  refine V_R (fun hR => ?_)
  refine V_iload_n (pc := 10) C (dk k_Z_wipe 6 rfl) rfl ?_
  refine V_iret (pc := 11) C E (dk k_Z_wipe 7 rfl) ?_
  have f : ∀ (k : Nat) (i : Int), True → ¬ (k = 128 ∧ i = 19) → up σ 128 19 0 k i = σ k i := fun k i a b => up_off _ _ b
  exact ⟨by rw [t1], ⟨hπ0.fx (fun k i a => f k i trivial (by omega)), hx0.fx (fun k i a => f k i trivial (by omega)), hU.fx ok (fun k i a => f k i trivial (by omega)), hK.fx ok (fun k i a => f k i trivial (by omega)), hl.fx (fun k i a => f k i trivial (by omega)), ⟨by rw [up_at]; rfl, by simp, fun k c h => by simp at h⟩⟩, Fm.of (fun k i a => f k i trivial (by omega))⟩

def i_Z_person : List (Nat × (Instr × Nat)) := [(0, (.aload_n 0, 1)), (1, (.iload_n 1, 1)), (2, (.invokevirtual 173, 3)), (5, (.ifCond .eq 12, 3)), (8, (.iload_n 2, 1)), (9, (.iconst 0, 1)), (10, (.iconst 2, 1)), (11, (.invokestatic 93, 3)), (14, (.ifCond .ne 5, 3)), (17, (.iconst (-1), 1)), (18, (.ireturn, 1)), (19, (.iload_n 2, 1)), (20, (.ifCond .ne 12, 3)), (23, (.aload_n 0, 1)), (24, (.getfield 22, 3)), (27, (.iload_n 1, 1)), (28, (.iaload, 1)), (29, (.goto 22, 3)), (32, (.iload_n 2, 1)), (33, (.iconst 1, 1)), (34, (.if_icmp .ne 12, 3)), (37, (.aload_n 0, 1)), (38, (.getfield 25, 3)), (41, (.iload_n 1, 1)), (42, (.iaload, 1)), (43, (.goto 8, 3)), (46, (.aload_n 0, 1)), (47, (.iload_n 1, 1)), (48, (.invokevirtual 177, 3)), (51, (.ireturn, 1))]
theorem k_Z_person : i_Z_person.all (fun q => decide (decode b_Z_person q.1 = .ok q.2)) = true := by decide +kernel

set_option maxHeartbeats 1000000 in
set_option maxRecDepth 20000 in
theorem c_Z_person (l : Launch) (G : GE) (σ : Wd) (π : PL) (x : ST) (us ks : List ST) (lk : List (Int × (Int × Int))) (tx : List Int) (j : Int) (hC : MR σ π x us ks lk tx) (hV : VK π x us ks j) (hj : j ≤ 100) (p k : Int) (hp : inR p) (hk : inR k) : Ct l G y_Z_person b_Z_person 3 (some (.int)) 2 43 [vR 128, vI p, vI k] σ (Dt (some (vI (o_person π x p k))) σ) := by
  refine Ct.of cm_Z_person (Nat.le_of_ble_eq_true rfl) ?_
  intro X hXl hXG hXN hRm C E
  subst hXl; subst hXG
  have ⟨hp_1, hp_2⟩ := hp
  have ⟨hk_1, hk_2⟩ := hk
  show V X 0 [some (vR 128), some (vI p), some (vI k)] [] σ
  refine V_R (fun hR => ?_)
  obtain ⟨hπ, hx, hU, hK, hl, hT⟩ := id hC
  obtain ⟨ok, xk, usk, ksk, ks2⟩ := id hV
  have hπ0 := hπ
  obtain ⟨e0, e1, e2, e3, eT, eX⟩ := hπ
  have ⟨k1, k2, k3, k4, k5, k6, kT, kX⟩ := ok
  have hx0 := hx
  obtain ⟨f0, f1, fQ, fT⟩ := hx
  have ⟨x1, x2, x3, x4, xQ, xT⟩ := xk
  refine V_aload_n (pc := 0) C (dk k_Z_person 0 rfl) rfl ?_
  refine V_iload_n (pc := 1) C (dk k_Z_person 1 rfl) rfl ?_
  refine V_callV (pc := 2) C (dk k_Z_person 2 rfl) lk_Z_173 cm_Z_isPerson vm_Z_isPerson (c_Z_isPerson _ _ _ π p hπ0 ok hp) kq_128 rfl rfl rfl (Nat.le_of_ble_eq_true rfl) (Rm.mono hRm (by decide) (by decide)) ?_
  refine V_ifeqB (pc := 5) C (dk k_Z_person 3 rfl) 17 rfl (fun h1 => ?_) (fun h1 => ?_)
  · skip
    refine V_iconst (pc := 17) C (dk k_Z_person 9 rfl) rfl ?_
    refine V_iret (pc := 18) C E (dk k_Z_person 10 rfl) ?_
    exact ⟨by unfold o_person; rw [if_neg (by omega)], rfl⟩
  · skip
    refine V_iload_n (pc := 8) C (dk k_Z_person 4 rfl) rfl ?_
    refine V_iconst (pc := 9) C (dk k_Z_person 5 rfl) rfl ?_
    refine V_iconst (pc := 10) C (dk k_Z_person 6 rfl) rfl ?_
    refine V_callS (pc := 11) C (dk k_Z_person 7 rfl) lk_Z_93 cm_Z_in sm_Z_in (c_Z_in _ _ _ k 0 2 hk ⟨by decide, by decide⟩ ⟨by decide, by decide⟩) rfl rfl (Nat.le_of_ble_eq_true rfl) (Rm.mono hRm (by decide) (by decide)) ?_
    refine V_ifneB (pc := 14) C (dk k_Z_person 8 rfl) 19 rfl (fun h2 => ?_) (fun h2 => ?_)
    · skip
      refine V_iload_n (pc := 19) C (dk k_Z_person 11 rfl) rfl ?_
      refine V_ifne (pc := 20) C (dk k_Z_person 12 rfl) 32 rfl (by first | exact hR _ _ | with_reducible assumption | exact ⟨by omega, by omega⟩) (fun h3 => ?_) (fun h3 => ?_)
      · skip
        refine V_iload_n (pc := 32) C (dk k_Z_person 18 rfl) rfl ?_
        refine V_iconst (pc := 33) C (dk k_Z_person 19 rfl) rfl ?_
        refine V_icmpne (pc := 34) C (dk k_Z_person 20 rfl) 46 rfl (by first | exact hR _ _ | with_reducible assumption | exact ⟨by omega, by omega⟩) (by first | exact hR _ _ | with_reducible assumption | exact ⟨by omega, by omega⟩) (fun h4 => ?_) (fun h4 => ?_)
        · skip
          refine V_aload_n (pc := 46) C (dk k_Z_person 26 rfl) rfl ?_
          refine V_iload_n (pc := 47) C (dk k_Z_person 27 rfl) rfl ?_
          refine V_callV (pc := 48) C (dk k_Z_person 28 rfl) lk_Z_177 cm_Z_thoseWith vm_Z_thoseWith (c_Z_thoseWith _ _ _ π x j hπ0 ok hx0 xk (by omega) p hp) kq_128 rfl rfl rfl (Nat.le_of_ble_eq_true rfl) (Rm.mono hRm (by decide) (by decide)) ?_
          refine V_iret (pc := 51) C E (dk k_Z_person 29 rfl) ?_
          unfold o_person
          rw [if_pos (by omega)]
          first | (rw [if_pos (by omega), (fQ p (by omega) (by omega)).1]; exact ⟨rfl, rfl⟩) | (rw [if_neg (by omega), if_pos (by omega), (fQ p (by omega) (by omega)).2]; exact ⟨rfl, rfl⟩) | (rw [if_neg (by omega), if_neg (by omega)]; exact ⟨rfl, rfl⟩)
        · skip
          refine V_aload_n (pc := 37) C (dk k_Z_person 21 rfl) rfl ?_
          refine V_getr (pc := 38) (o2 := 134) C (dk k_Z_person 22 rfl) fl_Z_25 kq_128 (by decide) rfl (by decide) rfl ?_
          refine V_iload_n (pc := 41) C (dk k_Z_person 23 rfl) rfl ?_
          refine V_iald (pc := 42) C (dk k_Z_person 24 rfl) kq_134 (by decide) (by omega) (by omega) ?_
          refine V_goto (pc := 43) C (dk k_Z_person 25 rfl) 51 rfl ?_
          refine V_iret (pc := 51) C E (dk k_Z_person 29 rfl) ?_
          unfold o_person
          rw [if_pos (by omega)]
          first | (rw [if_pos (by omega), (fQ p (by omega) (by omega)).1]; exact ⟨rfl, rfl⟩) | (rw [if_neg (by omega), if_pos (by omega), (fQ p (by omega) (by omega)).2]; exact ⟨rfl, rfl⟩) | (rw [if_neg (by omega), if_neg (by omega)]; exact ⟨rfl, rfl⟩)
      · skip
        refine V_aload_n (pc := 23) C (dk k_Z_person 13 rfl) rfl ?_
        refine V_getr (pc := 24) (o2 := 133) C (dk k_Z_person 14 rfl) fl_Z_22 kq_128 (by decide) rfl (by decide) rfl ?_
        refine V_iload_n (pc := 27) C (dk k_Z_person 15 rfl) rfl ?_
        refine V_iald (pc := 28) C (dk k_Z_person 16 rfl) kq_133 (by decide) (by omega) (by omega) ?_
        refine V_goto (pc := 29) C (dk k_Z_person 17 rfl) 51 rfl ?_
        refine V_iret (pc := 51) C E (dk k_Z_person 29 rfl) ?_
        unfold o_person
        rw [if_pos (by omega)]
        first | (rw [if_pos (by omega), (fQ p (by omega) (by omega)).1]; exact ⟨rfl, rfl⟩) | (rw [if_neg (by omega), if_pos (by omega), (fQ p (by omega) (by omega)).2]; exact ⟨rfl, rfl⟩) | (rw [if_neg (by omega), if_neg (by omega)]; exact ⟨rfl, rfl⟩)
    · skip
      refine V_iconst (pc := 17) C (dk k_Z_person 9 rfl) rfl ?_
      refine V_iret (pc := 18) C E (dk k_Z_person 10 rfl) ?_
      exact ⟨by unfold o_person; rw [if_neg (by omega)], rfl⟩

def i_Z_thing : List (Nat × (Instr × Nat)) := [(0, (.aload_n 0, 1)), (1, (.iload_n 1, 1)), (2, (.invokevirtual 180, 3)), (5, (.ifCond .eq 12, 3)), (8, (.iload_n 2, 1)), (9, (.iconst 0, 1)), (10, (.iconst 5, 1)), (11, (.invokestatic 93, 3)), (14, (.ifCond .ne 5, 3)), (17, (.iconst (-1), 1)), (18, (.ireturn, 1)), (19, (.iload_n 2, 1)), (20, (.tableswitch 71 0 4 #[36, 43, 50, 57, 64], 36)), (56, (.aload_n 0, 1)), (57, (.getfield 13, 3)), (60, (.iload_n 1, 1)), (61, (.iaload, 1)), (62, (.ireturn, 1)), (63, (.aload_n 0, 1)), (64, (.getfield 16, 3)), (67, (.iload_n 1, 1)), (68, (.iaload, 1)), (69, (.ireturn, 1)), (70, (.aload_n 0, 1)), (71, (.getfield 28, 3)), (74, (.iload_n 1, 1)), (75, (.iaload, 1)), (76, (.ireturn, 1)), (77, (.aload_n 0, 1)), (78, (.getfield 19, 3)), (81, (.iload_n 1, 1)), (82, (.iaload, 1)), (83, (.ireturn, 1)), (84, (.aload_n 0, 1)), (85, (.getfield 31, 3)), (88, (.iload_n 1, 1)), (89, (.iaload, 1)), (90, (.ireturn, 1)), (91, (.aload_n 0, 1)), (92, (.iload_n 1, 1)), (93, (.invokevirtual 183, 3)), (96, (.ireturn, 1))]
theorem k_Z_thing : i_Z_thing.all (fun q => decide (decode b_Z_thing q.1 = .ok q.2)) = true := by decide +kernel

set_option maxHeartbeats 1000000 in
set_option maxRecDepth 20000 in
theorem c_Z_thing (l : Launch) (G : GE) (σ : Wd) (π : PL) (x : ST) (us ks : List ST) (lk : List (Int × (Int × Int))) (tx : List Int) (j : Int) (hC : MR σ π x us ks lk tx) (hV : VK π x us ks j) (hj : j ≤ 100) (t k : Int) (ht : inR t) (hk : inR k) : Ct l G y_Z_thing b_Z_thing 3 (some (.int)) 2 43 [vR 128, vI t, vI k] σ (Dt (some (vI (o_thing π x t k))) σ) := by
  refine Ct.of cm_Z_thing (Nat.le_of_ble_eq_true rfl) ?_
  intro X hXl hXG hXN hRm C E
  subst hXl; subst hXG
  have ⟨ht_1, ht_2⟩ := ht
  have ⟨hk_1, hk_2⟩ := hk
  show V X 0 [some (vR 128), some (vI t), some (vI k)] [] σ
  refine V_R (fun hR => ?_)
  obtain ⟨hπ, hx, hU, hK, hl, hT⟩ := id hC
  obtain ⟨ok, xk, usk, ksk, ks2⟩ := id hV
  have hπ0 := hπ
  obtain ⟨e0, e1, e2, e3, eT, eX⟩ := hπ
  have ⟨k1, k2, k3, k4, k5, k6, kT, kX⟩ := ok
  have hx0 := hx
  obtain ⟨f0, f1, fQ, fT⟩ := hx
  have ⟨x1, x2, x3, x4, xQ, xT⟩ := xk
  refine V_aload_n (pc := 0) C (dk k_Z_thing 0 rfl) rfl ?_
  refine V_iload_n (pc := 1) C (dk k_Z_thing 1 rfl) rfl ?_
  refine V_callV (pc := 2) C (dk k_Z_thing 2 rfl) lk_Z_180 cm_Z_isThing vm_Z_isThing (c_Z_isThing _ _ _ π t hπ0 ok ht) kq_128 rfl rfl rfl (Nat.le_of_ble_eq_true rfl) (Rm.mono hRm (by decide) (by decide)) ?_
  refine V_ifeqB (pc := 5) C (dk k_Z_thing 3 rfl) 17 rfl (fun h1 => ?_) (fun h1 => ?_)
  · skip
    refine V_iconst (pc := 17) C (dk k_Z_thing 9 rfl) rfl ?_
    refine V_iret (pc := 18) C E (dk k_Z_thing 10 rfl) ?_
    exact ⟨by unfold o_thing; rw [if_neg (by omega)], rfl⟩
  · skip
    refine V_iload_n (pc := 8) C (dk k_Z_thing 4 rfl) rfl ?_
    refine V_iconst (pc := 9) C (dk k_Z_thing 5 rfl) rfl ?_
    refine V_iconst (pc := 10) C (dk k_Z_thing 6 rfl) rfl ?_
    refine V_callS (pc := 11) C (dk k_Z_thing 7 rfl) lk_Z_93 cm_Z_in sm_Z_in (c_Z_in _ _ _ k 0 5 hk ⟨by decide, by decide⟩ ⟨by decide, by decide⟩) rfl rfl (Nat.le_of_ble_eq_true rfl) (Rm.mono hRm (by decide) (by decide)) ?_
    refine V_ifneB (pc := 14) C (dk k_Z_thing 8 rfl) 19 rfl (fun h2 => ?_) (fun h2 => ?_)
    · skip
      refine V_iload_n (pc := 19) C (dk k_Z_thing 11 rfl) rfl ?_
      refine V_switch (pc := 20) C (dk k_Z_thing 12 rfl) (by first | exact hR _ _ | with_reducible assumption | exact ⟨by omega, by omega⟩) (fun h3 tgt ht => ?_) ⟨91, rfl⟩ (fun h3 h3b => ?_)
      · obtain rfl : tgt = 91 := by omega
        refine V_aload_n (pc := 91) C (dk k_Z_thing 38 rfl) rfl ?_
        refine V_iload_n (pc := 92) C (dk k_Z_thing 39 rfl) rfl ?_
        refine V_callV (pc := 93) C (dk k_Z_thing 40 rfl) lk_Z_183 cm_Z_price vm_Z_price (c_Z_price _ _ _ π x j t hπ0 ok hx0 xk (by omega) (by omega) (by omega)) kq_128 rfl rfl rfl (Nat.le_of_ble_eq_true rfl) (Rm.mono hRm (by decide) (by decide)) ?_
        refine V_iret (pc := 96) C E (dk k_Z_thing 41 rfl) ?_
        exact ⟨by unfold o_thing; rw [if_pos (by omega), if_neg (by omega), if_neg (by omega), if_neg (by omega), if_neg (by omega), if_neg (by omega)], rfl⟩
      · skip
        have h3c : k = 0 ∨ k = 1 ∨ k = 2 ∨ k = 3 ∨ k = 4 := by omega
        rcases h3c with h3d | h3d | h3d | h3d | h3d
        · refine ⟨36, 56, by rw [h3d]; rfl, rfl, ?_⟩
          refine V_aload_n (pc := 56) C (dk k_Z_thing 13 rfl) rfl ?_
          refine V_getr (pc := 57) (o2 := 130) C (dk k_Z_thing 14 rfl) fl_Z_13 kq_128 (by decide) rfl (by decide) rfl ?_
          refine V_iload_n (pc := 60) C (dk k_Z_thing 15 rfl) rfl ?_
          refine V_iald (pc := 61) C (dk k_Z_thing 16 rfl) kq_130 (by decide) (by omega) (by omega) ?_
          refine V_iret (pc := 62) C E (dk k_Z_thing 17 rfl) ?_
          obtain ⟨gN, gP⟩ := fT t (by omega) (by omega)
          obtain ⟨gO, gK, gU⟩ := eT t (by omega) (by omega)
          exact ⟨by unfold o_thing; rw [if_pos (by omega), if_pos (by omega), gO], rfl⟩
        · refine ⟨43, 63, by rw [h3d]; rfl, rfl, ?_⟩
          refine V_aload_n (pc := 63) C (dk k_Z_thing 18 rfl) rfl ?_
          refine V_getr (pc := 64) (o2 := 131) C (dk k_Z_thing 19 rfl) fl_Z_16 kq_128 (by decide) rfl (by decide) rfl ?_
          refine V_iload_n (pc := 67) C (dk k_Z_thing 20 rfl) rfl ?_
          refine V_iald (pc := 68) C (dk k_Z_thing 21 rfl) kq_131 (by decide) (by omega) (by omega) ?_
          refine V_iret (pc := 69) C E (dk k_Z_thing 22 rfl) ?_
          obtain ⟨gN, gP⟩ := fT t (by omega) (by omega)
          obtain ⟨gO, gK, gU⟩ := eT t (by omega) (by omega)
          exact ⟨by unfold o_thing; rw [if_pos (by omega), if_neg (by omega), if_pos (by omega), gK], rfl⟩
        · refine ⟨50, 70, by rw [h3d]; rfl, rfl, ?_⟩
          refine V_aload_n (pc := 70) C (dk k_Z_thing 23 rfl) rfl ?_
          refine V_getr (pc := 71) (o2 := 135) C (dk k_Z_thing 24 rfl) fl_Z_28 kq_128 (by decide) rfl (by decide) rfl ?_
          refine V_iload_n (pc := 74) C (dk k_Z_thing 25 rfl) rfl ?_
          refine V_iald (pc := 75) C (dk k_Z_thing 26 rfl) kq_135 (by decide) (by omega) (by omega) ?_
          refine V_iret (pc := 76) C E (dk k_Z_thing 27 rfl) ?_
          obtain ⟨gN, gP⟩ := fT t (by omega) (by omega)
          obtain ⟨gO, gK, gU⟩ := eT t (by omega) (by omega)
          exact ⟨by unfold o_thing; rw [if_pos (by omega), if_neg (by omega), if_neg (by omega), if_pos (by omega), gN], rfl⟩
        · refine ⟨57, 77, by rw [h3d]; rfl, rfl, ?_⟩
          refine V_aload_n (pc := 77) C (dk k_Z_thing 28 rfl) rfl ?_
          refine V_getr (pc := 78) (o2 := 132) C (dk k_Z_thing 29 rfl) fl_Z_19 kq_128 (by decide) rfl (by decide) rfl ?_
          refine V_iload_n (pc := 81) C (dk k_Z_thing 30 rfl) rfl ?_
          refine V_iald (pc := 82) C (dk k_Z_thing 31 rfl) kq_132 (by decide) (by omega) (by omega) ?_
          refine V_iret (pc := 83) C E (dk k_Z_thing 32 rfl) ?_
          obtain ⟨gN, gP⟩ := fT t (by omega) (by omega)
          obtain ⟨gO, gK, gU⟩ := eT t (by omega) (by omega)
          exact ⟨by unfold o_thing; rw [if_pos (by omega), if_neg (by omega), if_neg (by omega), if_neg (by omega), if_pos (by omega), gU], rfl⟩
        · refine ⟨64, 84, by rw [h3d]; rfl, rfl, ?_⟩
          refine V_aload_n (pc := 84) C (dk k_Z_thing 33 rfl) rfl ?_
          refine V_getr (pc := 85) (o2 := 136) C (dk k_Z_thing 34 rfl) fl_Z_31 kq_128 (by decide) rfl (by decide) rfl ?_
          refine V_iload_n (pc := 88) C (dk k_Z_thing 35 rfl) rfl ?_
          refine V_iald (pc := 89) C (dk k_Z_thing 36 rfl) kq_136 (by decide) (by omega) (by omega) ?_
          refine V_iret (pc := 90) C E (dk k_Z_thing 37 rfl) ?_
          obtain ⟨gN, gP⟩ := fT t (by omega) (by omega)
          obtain ⟨gO, gK, gU⟩ := eT t (by omega) (by omega)
          exact ⟨by unfold o_thing; rw [if_pos (by omega), if_neg (by omega), if_neg (by omega), if_neg (by omega), if_neg (by omega), if_pos (by omega), gP], rfl⟩
    · skip
      refine V_iconst (pc := 17) C (dk k_Z_thing 9 rfl) rfl ?_
      refine V_iret (pc := 18) C E (dk k_Z_thing 10 rfl) ?_
      exact ⟨by unfold o_thing; rw [if_neg (by omega)], rfl⟩

def i_Z_pays : List (Nat × (Instr × Nat)) := [(0, (.iload_n 1, 1)), (1, (.iconst 0, 1)), (2, (.bipush 99, 2)), (4, (.invokestatic 93, 3)), (7, (.ifCond .eq 16, 3)), (10, (.aload_n 0, 1)), (11, (.aload_n 0, 1)), (12, (.getfield 150, 3)), (15, (.iload_n 1, 1)), (16, (.iadd, 1)), (17, (.invokevirtual 162, 3)), (20, (.goto 4, 3)), (23, (.iconst (-1), 1)), (24, (.ireturn, 1))]
theorem k_Z_pays : i_Z_pays.all (fun q => decide (decode b_Z_pays q.1 = .ok q.2)) = true := by decide +kernel

set_option maxHeartbeats 1000000 in
set_option maxRecDepth 20000 in
theorem c_Z_pays (l : Launch) (G : GE) (σ : Wd) (π : PL) (x : ST) (us ks : List ST) (lk : List (Int × (Int × Int))) (tx : List Int) (j : Int) (hC : MR σ π x us ks lk tx) (hV : VK π x us ks j) (hj : j ≤ 100) (n : Int) (hn : inR n) : Ct l G y_Z_pays b_Z_pays 2 (some (.int)) 1 22 [vR 128, vI n] σ (Dt (some (vI (o_pays π x n))) σ) := by
  refine Ct.of cm_Z_pays (Nat.le_of_ble_eq_true rfl) ?_
  intro X hXl hXG hXN hRm C E
  subst hXl; subst hXG
  have ⟨hn_1, hn_2⟩ := hn
  show V X 0 [some (vR 128), some (vI n)] [] σ
  refine V_R (fun hR => ?_)
  obtain ⟨hπ, hx, hU, hK, hl, hT⟩ := id hC
  obtain ⟨ok, xk, usk, ksk, ks2⟩ := id hV
  have hπ0 := hπ
  obtain ⟨e0, e1, e2, e3, eT, eX⟩ := hπ
  have ⟨k1, k2, k3, k4, k5, k6, kT, kX⟩ := ok
  have hx0 := hx
  obtain ⟨f0, f1, fQ, fT⟩ := hx
  have ⟨x1, x2, x3, x4, xQ, xT⟩ := xk
  refine V_iload_n (pc := 0) C (dk k_Z_pays 0 rfl) rfl ?_
  refine V_iconst (pc := 1) C (dk k_Z_pays 1 rfl) rfl ?_
  refine V_bipush (pc := 2) (n' := 99) C (dk k_Z_pays 2 rfl) rfl ?_
  refine V_callS (pc := 4) C (dk k_Z_pays 3 rfl) lk_Z_93 cm_Z_in sm_Z_in (c_Z_in _ _ _ n 0 99 hn ⟨by decide, by decide⟩ ⟨by decide, by decide⟩) rfl rfl (Nat.le_of_ble_eq_true rfl) (Rm.mono hRm (by decide) (by decide)) ?_
  refine V_ifeqB (pc := 7) C (dk k_Z_pays 4 rfl) 23 rfl (fun h1 => ?_) (fun h1 => ?_)
  · skip
    refine V_iconst (pc := 23) C (dk k_Z_pays 12 rfl) rfl ?_
    refine V_iret (pc := 24) C E (dk k_Z_pays 13 rfl) ?_
    exact ⟨by unfold o_pays; first | rw [if_pos (by omega)] | rw [if_neg (by omega)], rfl⟩
  · skip
    refine V_aload_n (pc := 10) C (dk k_Z_pays 5 rfl) rfl ?_
    refine V_aload_n (pc := 11) C (dk k_Z_pays 6 rfl) rfl ?_
    refine V_geti (pc := 12) (ji := 8) C (dk k_Z_pays 7 rfl) fl_Z_150 kq_128 (by decide) rfl rfl ?_
    refine V_iload_n (pc := 15) C (dk k_Z_pays 8 rfl) rfl ?_
    refine V_iadd (pc := 16) C (dk k_Z_pays 9 rfl) ?_
    rw [f0]
    refine V_callV (pc := 17) C (dk k_Z_pays 10 rfl) lk_Z_162 cm_Z_rateOf vm_Z_rateOf (c_Z_rateOf _ _ _ π (sD x + n) hπ0 ok ⟨by omega, by omega⟩ (by omega)) kq_128 rfl rfl rfl (Nat.le_of_ble_eq_true rfl) (Rm.mono hRm (by decide) (by decide)) ?_
    refine V_goto (pc := 20) C (dk k_Z_pays 11 rfl) 24 rfl ?_
    refine V_iret (pc := 24) C E (dk k_Z_pays 13 rfl) ?_
    exact ⟨by unfold o_pays; first | rw [if_pos (by omega)] | rw [if_neg (by omega)], rfl⟩

def i_Z_sell : List (Nat × (Instr × Nat)) := [(0, (.aload_n 0, 1)), (1, (.iload_n 1, 1)), (2, (.invokevirtual 180, 3)), (5, (.ifCond .ne 5, 3)), (8, (.iconst (-1), 1)), (9, (.ireturn, 1)), (10, (.aload_n 0, 1)), (11, (.iload_n 1, 1)), (12, (.invokevirtual 190, 3)), (15, (.ifCond .ne 6, 3)), (18, (.bipush (-2), 2)), (20, (.ireturn, 1)), (21, (.aload_n 0, 1)), (22, (.invokevirtual 193, 3)), (25, (.aload_n 0, 1)), (26, (.iload_n 1, 1)), (27, (.invokevirtual 196, 3)), (30, (.aload_n 0, 1)), (31, (.iload_n 1, 1)), (32, (.invokevirtual 183, 3)), (35, (.ireturn, 1))]
theorem k_Z_sell : i_Z_sell.all (fun q => decide (decode b_Z_sell q.1 = .ok q.2)) = true := by decide +kernel

set_option maxHeartbeats 1000000 in
set_option maxRecDepth 20000 in
theorem c_Z_sell (l : Launch) (G : GE) (σ : Wd) (π : PL) (x : ST) (us ks : List ST) (lk : List (Int × (Int × Int))) (tx : List Int) (j : Int) (hC : MR σ π x us ks lk tx) (hV : VK π x us ks j) (hj : j ≤ 100) (t : Int) (ht : inR t) : Ct l G y_Z_sell b_Z_sell 2 (some (.int)) 3 64 [vR 128, vI t] σ (Rt (some (vI ((o_sell π x us t).1))) (fun σ' => MR σ' π (o_sell π x us t).2.1 (o_sell π x us t).2.2 ks lk tx ∧ Fm σ σ')) := by
  refine Ct.of cm_Z_sell (Nat.le_of_ble_eq_true rfl) ?_
  intro X hXl hXG hXN hRm C E
  subst hXl; subst hXG
  have ⟨ht_1, ht_2⟩ := ht
  show V X 0 [some (vR 128), some (vI t)] [] σ
  refine V_R (fun hR => ?_)
  obtain ⟨hπ, hx, hU, hK, hl, hT⟩ := id hC
  obtain ⟨ok, xk, usk, ksk, ks2⟩ := id hV
  have hπ0 := hπ
  obtain ⟨e0, e1, e2, e3, eT, eX⟩ := hπ
  have ⟨k1, k2, k3, k4, k5, k6, kT, kX⟩ := ok
  have hx0 := hx
  obtain ⟨f0, f1, fQ, fT⟩ := hx
  have ⟨x1, x2, x3, x4, xQ, xT⟩ := xk
  refine V_aload_n (pc := 0) C (dk k_Z_sell 0 rfl) rfl ?_
  refine V_iload_n (pc := 1) C (dk k_Z_sell 1 rfl) rfl ?_
  refine V_callV (pc := 2) C (dk k_Z_sell 2 rfl) lk_Z_180 cm_Z_isThing vm_Z_isThing (c_Z_isThing _ _ _ π t hπ0 ok ht) kq_128 rfl rfl rfl (Nat.le_of_ble_eq_true rfl) (Rm.mono hRm (by decide) (by decide)) ?_
  refine V_ifneB (pc := 5) C (dk k_Z_sell 3 rfl) 10 rfl (fun h1 => ?_) (fun h1 => ?_)
  · skip
    refine V_aload_n (pc := 10) C (dk k_Z_sell 6 rfl) rfl ?_
    refine V_iload_n (pc := 11) C (dk k_Z_sell 7 rfl) rfl ?_
    refine V_callV (pc := 12) C (dk k_Z_sell 8 rfl) lk_Z_190 cm_Z_maySell vm_Z_maySell (c_Z_maySell _ _ _ π x j t hπ0 ok hx0 xk (by omega) (by omega) (by omega)) kq_128 rfl rfl rfl (Nat.le_of_ble_eq_true rfl) (Rm.mono hRm (by decide) (by decide)) ?_
    refine V_ifneB (pc := 15) C (dk k_Z_sell 9 rfl) 21 rfl (fun h2 => ?_) (fun h2 => ?_)
    · skip
      refine V_aload_n (pc := 21) C (dk k_Z_sell 12 rfl) rfl ?_
      refine V_callV0r (pc := 22) C (dk k_Z_sell 13 rfl) lk_Z_193 cm_Z_notes vm_Z_notes (c_Z_notes _ _ _ π x us ok hx0 hU) kq_128 rfl rfl rfl (Nat.le_of_ble_eq_true rfl) (Rm.mono hRm (by decide) (by decide)) (fun τ1 hq1 => ?_)
      refine V_R (fun hR => ?_)
      refine V_aload_n (pc := 25) C (dk k_Z_sell 14 rfl) rfl ?_
      refine V_iload_n (pc := 26) C (dk k_Z_sell 15 rfl) rfl ?_
      refine V_callV0r (pc := 27) C (dk k_Z_sell 16 rfl) lk_Z_196 cm_Z_sells vm_Z_sells (c_Z_sells _ _ _ π x j t (hπ0.fx (fun k i a => hq1.2 k i (by omega) (by omega))) ok (hx0.fx (fun k i a => hq1.2 k i (by omega) (by omega))) xk (by omega) (by omega) (by omega) (by omega)) kq_128 rfl rfl rfl (Nat.le_of_ble_eq_true rfl) (Rm.mono hRm (by decide) (by decide)) (fun τ2 hq2 => ?_)
      refine V_R (fun hR => ?_)
      refine V_aload_n (pc := 30) C (dk k_Z_sell 17 rfl) rfl ?_
      refine V_iload_n (pc := 31) C (dk k_Z_sell 18 rfl) rfl ?_
      refine V_callV (pc := 32) C (dk k_Z_sell 19 rfl) lk_Z_183 cm_Z_price vm_Z_price (c_Z_price _ _ _ π (sellX π x t) (j + 1) t ((hπ0.fx (fun k i a => hq1.2 k i (by omega) (by omega))).fr hq2.2) ok hq2.1 (sellZ_ok ok xk (by omega) (by omega) (by omega) (by omega)) (by omega) (by omega) (by omega)) kq_128 rfl rfl rfl (Nat.le_of_ble_eq_true rfl) (Rm.mono hRm (by decide) (by decide)) ?_
      refine V_iret (pc := 35) C E (dk k_Z_sell 20 rfl) ?_
      rw [show o_sell π x us t = (prc π x t, (sellX π x t, (x :: us).take 8)) by unfold o_sell; rw [if_pos (by omega), if_pos (by omega)]]
      have f : ∀ (k : Nat) (i : Int), ¬ (133 ≤ k ∧ k ≤ 136) ∧ k ≠ 144 → ¬ (k = 128 ∧ (i = 8 ∨ i = 9 ∨ i = 31)) → τ2 k i = σ k i := fun k i a b => (hq2.2 k i (by omega) (by omega)).trans (hq1.2 k i (by omega) (by omega))
      exact ⟨rfl, ⟨hπ0.fx (fun k i a => f k i (by omega) (by omega)), hq2.1, hq1.1.fx ok (fun k i a => hq2.2 k i (by omega) (by omega)), hK.fx ok (fun k i a => f k i (by omega) (by omega)), hl.fx (fun k i a => f k i (by omega) (by omega)), hT.fx (fun k i a => f k i (by omega) (by omega))⟩, Fm.of (fun k i a => f k i (by omega) (by omega))⟩
    · skip
      refine V_bipush (pc := 18) (n' := (-2)) C (dk k_Z_sell 10 rfl) rfl ?_
      refine V_iret (pc := 20) C E (dk k_Z_sell 11 rfl) ?_
      rw [show o_sell π x us t = (-2, (x, us)) by unfold o_sell; rw [if_pos (by omega), if_neg (by omega)]]
      exact ⟨rfl, hC, Fm.rf σ⟩
  · skip
    refine V_iconst (pc := 8) C (dk k_Z_sell 4 rfl) rfl ?_
    refine V_iret (pc := 9) C E (dk k_Z_sell 5 rfl) ?_
    rw [show o_sell π x us t = (-1, (x, us)) from if_neg (by omega)]
    exact ⟨rfl, hC, Fm.rf σ⟩

def i_Z_buyBack : List (Nat × (Instr × Nat)) := [(0, (.aload_n 0, 1)), (1, (.iload_n 1, 1)), (2, (.invokevirtual 180, 3)), (5, (.ifCond .ne 5, 3)), (8, (.iconst (-1), 1)), (9, (.ireturn, 1)), (10, (.aload_n 0, 1)), (11, (.iload_n 1, 1)), (12, (.invokevirtual 200, 3)), (15, (.ifCond .ne 6, 3)), (18, (.bipush (-2), 2)), (20, (.ireturn, 1)), (21, (.aload_n 0, 1)), (22, (.invokevirtual 193, 3)), (25, (.aload_n 0, 1)), (26, (.iload_n 1, 1)), (27, (.invokevirtual 203, 3)), (30, (.aload_n 0, 1)), (31, (.iload_n 1, 1)), (32, (.invokevirtual 183, 3)), (35, (.ireturn, 1))]
theorem k_Z_buyBack : i_Z_buyBack.all (fun q => decide (decode b_Z_buyBack q.1 = .ok q.2)) = true := by decide +kernel

set_option maxHeartbeats 1000000 in
set_option maxRecDepth 20000 in
theorem c_Z_buyBack (l : Launch) (G : GE) (σ : Wd) (π : PL) (x : ST) (us ks : List ST) (lk : List (Int × (Int × Int))) (tx : List Int) (j : Int) (hC : MR σ π x us ks lk tx) (hV : VK π x us ks j) (hj : j ≤ 100) (t : Int) (ht : inR t) : Ct l G y_Z_buyBack b_Z_buyBack 2 (some (.int)) 3 64 [vR 128, vI t] σ (Rt (some (vI ((o_buy π x us t).1))) (fun σ' => MR σ' π (o_buy π x us t).2.1 (o_buy π x us t).2.2 ks lk tx ∧ Fm σ σ')) := by
  refine Ct.of cm_Z_buyBack (Nat.le_of_ble_eq_true rfl) ?_
  intro X hXl hXG hXN hRm C E
  subst hXl; subst hXG
  have ⟨ht_1, ht_2⟩ := ht
  show V X 0 [some (vR 128), some (vI t)] [] σ
  refine V_R (fun hR => ?_)
  obtain ⟨hπ, hx, hU, hK, hl, hT⟩ := id hC
  obtain ⟨ok, xk, usk, ksk, ks2⟩ := id hV
  have hπ0 := hπ
  obtain ⟨e0, e1, e2, e3, eT, eX⟩ := hπ
  have ⟨k1, k2, k3, k4, k5, k6, kT, kX⟩ := ok
  have hx0 := hx
  obtain ⟨f0, f1, fQ, fT⟩ := hx
  have ⟨x1, x2, x3, x4, xQ, xT⟩ := xk
  refine V_aload_n (pc := 0) C (dk k_Z_buyBack 0 rfl) rfl ?_
  refine V_iload_n (pc := 1) C (dk k_Z_buyBack 1 rfl) rfl ?_
  refine V_callV (pc := 2) C (dk k_Z_buyBack 2 rfl) lk_Z_180 cm_Z_isThing vm_Z_isThing (c_Z_isThing _ _ _ π t hπ0 ok ht) kq_128 rfl rfl rfl (Nat.le_of_ble_eq_true rfl) (Rm.mono hRm (by decide) (by decide)) ?_
  refine V_ifneB (pc := 5) C (dk k_Z_buyBack 3 rfl) 10 rfl (fun h1 => ?_) (fun h1 => ?_)
  · skip
    refine V_aload_n (pc := 10) C (dk k_Z_buyBack 6 rfl) rfl ?_
    refine V_iload_n (pc := 11) C (dk k_Z_buyBack 7 rfl) rfl ?_
    refine V_callV (pc := 12) C (dk k_Z_buyBack 8 rfl) lk_Z_200 cm_Z_mayBuy vm_Z_mayBuy (c_Z_mayBuy _ _ _ π x j t hπ0 ok hx0 xk (by omega) (by omega) (by omega)) kq_128 rfl rfl rfl (Nat.le_of_ble_eq_true rfl) (Rm.mono hRm (by decide) (by decide)) ?_
    refine V_ifneB (pc := 15) C (dk k_Z_buyBack 9 rfl) 21 rfl (fun h2 => ?_) (fun h2 => ?_)
    · skip
      refine V_aload_n (pc := 21) C (dk k_Z_buyBack 12 rfl) rfl ?_
      refine V_callV0r (pc := 22) C (dk k_Z_buyBack 13 rfl) lk_Z_193 cm_Z_notes vm_Z_notes (c_Z_notes _ _ _ π x us ok hx0 hU) kq_128 rfl rfl rfl (Nat.le_of_ble_eq_true rfl) (Rm.mono hRm (by decide) (by decide)) (fun τ1 hq1 => ?_)
      refine V_R (fun hR => ?_)
      refine V_aload_n (pc := 25) C (dk k_Z_buyBack 14 rfl) rfl ?_
      refine V_iload_n (pc := 26) C (dk k_Z_buyBack 15 rfl) rfl ?_
      refine V_callV0r (pc := 27) C (dk k_Z_buyBack 16 rfl) lk_Z_203 cm_Z_buys vm_Z_buys (c_Z_buys _ _ _ π x j t (hπ0.fx (fun k i a => hq1.2 k i (by omega) (by omega))) ok (hx0.fx (fun k i a => hq1.2 k i (by omega) (by omega))) xk (by omega) (by omega) (by omega) (by omega)) kq_128 rfl rfl rfl (Nat.le_of_ble_eq_true rfl) (Rm.mono hRm (by decide) (by decide)) (fun τ2 hq2 => ?_)
      refine V_R (fun hR => ?_)
      refine V_aload_n (pc := 30) C (dk k_Z_buyBack 17 rfl) rfl ?_
      refine V_iload_n (pc := 31) C (dk k_Z_buyBack 18 rfl) rfl ?_
      refine V_callV (pc := 32) C (dk k_Z_buyBack 19 rfl) lk_Z_183 cm_Z_price vm_Z_price (c_Z_price _ _ _ π (buyX π x t) (j + 1) t ((hπ0.fx (fun k i a => hq1.2 k i (by omega) (by omega))).fr hq2.2) ok hq2.1 (buyZ_ok ok xk (by omega) (by omega) (by omega) (by omega)) (by omega) (by omega) (by omega)) kq_128 rfl rfl rfl (Nat.le_of_ble_eq_true rfl) (Rm.mono hRm (by decide) (by decide)) ?_
      refine V_iret (pc := 35) C E (dk k_Z_buyBack 20 rfl) ?_
      rw [show o_buy π x us t = (prc π x t, (buyX π x t, (x :: us).take 8)) by unfold o_buy; rw [if_pos (by omega), if_pos (by omega)]]
      have f : ∀ (k : Nat) (i : Int), ¬ (133 ≤ k ∧ k ≤ 136) ∧ k ≠ 144 → ¬ (k = 128 ∧ (i = 8 ∨ i = 9 ∨ i = 31)) → τ2 k i = σ k i := fun k i a b => (hq2.2 k i (by omega) (by omega)).trans (hq1.2 k i (by omega) (by omega))
      exact ⟨rfl, ⟨hπ0.fx (fun k i a => f k i (by omega) (by omega)), hq2.1, hq1.1.fx ok (fun k i a => hq2.2 k i (by omega) (by omega)), hK.fx ok (fun k i a => f k i (by omega) (by omega)), hl.fx (fun k i a => f k i (by omega) (by omega)), hT.fx (fun k i a => f k i (by omega) (by omega))⟩, Fm.of (fun k i a => f k i (by omega) (by omega))⟩
    · skip
      refine V_bipush (pc := 18) (n' := (-2)) C (dk k_Z_buyBack 10 rfl) rfl ?_
      refine V_iret (pc := 20) C E (dk k_Z_buyBack 11 rfl) ?_
      rw [show o_buy π x us t = (-2, (x, us)) by unfold o_buy; rw [if_pos (by omega), if_neg (by omega)]]
      exact ⟨rfl, hC, Fm.rf σ⟩
  · skip
    refine V_iconst (pc := 8) C (dk k_Z_buyBack 4 rfl) rfl ?_
    refine V_iret (pc := 9) C E (dk k_Z_buyBack 5 rfl) ?_
    rw [show o_buy π x us t = (-1, (x, us)) from if_neg (by omega)]
    exact ⟨rfl, hC, Fm.rf σ⟩

def i_Z_pass : List (Nat × (Instr × Nat)) := [(0, (.iload_n 1, 1)), (1, (.iconst 1, 1)), (2, (.bipush 24, 2)), (4, (.invokestatic 93, 3)), (7, (.ifCond .ne 5, 3)), (10, (.iconst (-1), 1)), (11, (.ireturn, 1)), (12, (.aload_n 0, 1)), (13, (.invokevirtual 193, 3)), (16, (.aload_n 0, 1)), (17, (.iload_n 1, 1)), (18, (.invokevirtual 206, 3)), (21, (.aload_n 0, 1)), (22, (.getfield 150, 3)), (25, (.ireturn, 1))]
theorem k_Z_pass : i_Z_pass.all (fun q => decide (decode b_Z_pass q.1 = .ok q.2)) = true := by decide +kernel

set_option maxHeartbeats 1000000 in
set_option maxRecDepth 20000 in
theorem c_Z_pass (l : Launch) (G : GE) (σ : Wd) (π : PL) (x : ST) (us ks : List ST) (lk : List (Int × (Int × Int))) (tx : List Int) (j : Int) (hC : MR σ π x us ks lk tx) (hV : VK π x us ks j) (hj : j ≤ 100) (n : Int) (hn : inR n) : Ct l G y_Z_pass b_Z_pass 2 (some (.int)) 3 66 [vR 128, vI n] σ (Rt (some (vI ((o_pass π x us n).1))) (fun σ' => MR σ' π (o_pass π x us n).2.1 (o_pass π x us n).2.2 ks lk tx ∧ Fm σ σ')) := by
  refine Ct.of cm_Z_pass (Nat.le_of_ble_eq_true rfl) ?_
  intro X hXl hXG hXN hRm C E
  subst hXl; subst hXG
  have ⟨hn_1, hn_2⟩ := hn
  show V X 0 [some (vR 128), some (vI n)] [] σ
  refine V_R (fun hR => ?_)
  obtain ⟨hπ, hx, hU, hK, hl, hT⟩ := id hC
  obtain ⟨ok, xk, usk, ksk, ks2⟩ := id hV
  have hπ0 := hπ
  obtain ⟨e0, e1, e2, e3, eT, eX⟩ := hπ
  have ⟨k1, k2, k3, k4, k5, k6, kT, kX⟩ := ok
  have hx0 := hx
  obtain ⟨f0, f1, fQ, fT⟩ := hx
  have ⟨x1, x2, x3, x4, xQ, xT⟩ := xk
  refine V_iload_n (pc := 0) C (dk k_Z_pass 0 rfl) rfl ?_
  refine V_iconst (pc := 1) C (dk k_Z_pass 1 rfl) rfl ?_
  refine V_bipush (pc := 2) (n' := 24) C (dk k_Z_pass 2 rfl) rfl ?_
  refine V_callS (pc := 4) C (dk k_Z_pass 3 rfl) lk_Z_93 cm_Z_in sm_Z_in (c_Z_in _ _ _ n 1 24 hn ⟨by decide, by decide⟩ ⟨by decide, by decide⟩) rfl rfl (Nat.le_of_ble_eq_true rfl) (Rm.mono hRm (by decide) (by decide)) ?_
  refine V_ifneB (pc := 7) C (dk k_Z_pass 4 rfl) 12 rfl (fun h1 => ?_) (fun h1 => ?_)
  · skip
    refine V_aload_n (pc := 12) C (dk k_Z_pass 7 rfl) rfl ?_
    refine V_callV0r (pc := 13) C (dk k_Z_pass 8 rfl) lk_Z_193 cm_Z_notes vm_Z_notes (c_Z_notes _ _ _ π x us ok hx0 hU) kq_128 rfl rfl rfl (Nat.le_of_ble_eq_true rfl) (Rm.mono hRm (by decide) (by decide)) (fun τ1 hq1 => ?_)
    refine V_R (fun hR => ?_)
    refine V_aload_n (pc := 16) C (dk k_Z_pass 9 rfl) rfl ?_
    refine V_iload_n (pc := 17) C (dk k_Z_pass 10 rfl) rfl ?_
    refine V_callV0r (pc := 18) C (dk k_Z_pass 11 rfl) lk_Z_206 cm_Z_goesOn vm_Z_goesOn (c_Z_goesOn _ _ _ π x j (hπ0.fx (fun k i a => hq1.2 k i (by omega) (by omega))) ok (hx0.fx (fun k i a => hq1.2 k i (by omega) (by omega))) xk (by omega) n (by omega) (by omega)) kq_128 rfl rfl rfl (Nat.le_of_ble_eq_true rfl) (Rm.mono hRm (by decide) (by decide)) (fun τ2 hq2 => ?_)
    refine V_R (fun hR => ?_)
    refine V_aload_n (pc := 21) C (dk k_Z_pass 12 rfl) rfl ?_
    refine V_geti (pc := 22) (ji := 8) C (dk k_Z_pass 13 rfl) fl_Z_150 kq_128 (by decide) rfl rfl ?_
    refine V_iret (pc := 25) C E (dk k_Z_pass 14 rfl) ?_
    rw [show o_pass π x us n = (sD (daysX π x n.toNat), (daysX π x n.toNat, (x :: us).take 8)) from if_pos (by omega)]
    have f : ∀ (k : Nat) (i : Int), ¬ (133 ≤ k ∧ k ≤ 136) ∧ k ≠ 144 → ¬ (k = 128 ∧ (i = 8 ∨ i = 9 ∨ i = 31)) → τ2 k i = σ k i := fun k i a b => (hq2.2 k i (by omega) (by omega)).trans (hq1.2 k i (by omega) (by omega))
    exact ⟨by rw [hq2.1.1], ⟨hπ0.fx (fun k i a => f k i (by omega) (by omega)), hq2.1, hq1.1.fx ok (fun k i a => hq2.2 k i (by omega) (by omega)), hK.fx ok (fun k i a => f k i (by omega) (by omega)), hl.fx (fun k i a => f k i (by omega) (by omega)), hT.fx (fun k i a => f k i (by omega) (by omega))⟩, Fm.of (fun k i a => f k i (by omega) (by omega))⟩
  · skip
    refine V_iconst (pc := 10) C (dk k_Z_pass 5 rfl) rfl ?_
    refine V_iret (pc := 11) C E (dk k_Z_pass 6 rfl) ?_
    rw [show o_pass π x us n = (-1, (x, us)) from if_neg (by omega)]
    exact ⟨rfl, hC, Fm.rf σ⟩

def i_Z_undo : List (Nat × (Instr × Nat)) := [(0, (.aload_n 0, 1)), (1, (.getfield 156, 3)), (4, (.ifCond .ne 6, 3)), (7, (.bipush (-2), 2)), (9, (.ireturn, 1)), (10, (.aload_n 0, 1)), (11, (.dup, 1)), (12, (.getfield 156, 3)), (15, (.iconst 1, 1)), (16, (.isub, 1)), (17, (.putfield 156, 3)), (20, (.aload_n 0, 1)), (21, (.aload_n 0, 1)), (22, (.getfield 55, 3)), (25, (.bipush 28, 2)), (27, (.aload_n 0, 1)), (28, (.getfield 156, 3)), (31, (.imul, 1)), (32, (.invokevirtual 209, 3)), (35, (.aload_n 0, 1)), (36, (.getfield 156, 3)), (39, (.ireturn, 1))]
theorem k_Z_undo : i_Z_undo.all (fun q => decide (decode b_Z_undo q.1 = .ok q.2)) = true := by decide +kernel

set_option maxHeartbeats 1000000 in
set_option maxRecDepth 20000 in
theorem c_Z_undo (l : Launch) (G : GE) (σ : Wd) (π : PL) (x : ST) (y : ST) (us ks : List ST) (lk : List (Int × (Int × Int))) (tx : List Int) (j : Int) (hC : MR σ π x (y :: us) ks lk tx) (hV : VK π x (y :: us) ks j) (hj : j ≤ 100) : Ct l G y_Z_undo b_Z_undo 1 (some (.int)) 1 23 [vR 128] σ (Rt (some (vI (us.length))) (fun σ' => MR σ' π y us ks lk tx ∧ Fm σ σ')) := by
  refine Ct.of cm_Z_undo (Nat.le_of_ble_eq_true rfl) ?_
  intro X hXl hXG hXN hRm C E
  subst hXl; subst hXG
  show V X 0 [some (vR 128)] [] σ
  refine V_R (fun hR => ?_)
  obtain ⟨hπ, hx, hU, hK, hl, hT⟩ := id hC
  obtain ⟨ok, xk, usk, ksk, ks2⟩ := id hV
  have hπ0 := hπ
  obtain ⟨e0, e1, e2, e3, eT, eX⟩ := hπ
  have ⟨k1, k2, k3, k4, k5, k6, kT, kX⟩ := ok
  have hx0 := hx
  obtain ⟨f0, f1, fQ, fT⟩ := hx
  have ⟨x1, x2, x3, x4, xQ, xT⟩ := xk
  have hU0 := hU
  obtain ⟨u1, u2, u3⟩ := hU
  rw [List.length_cons] at u1 u2
  obtain ⟨hU1, hB⟩ := hU0.pop ok
  have hUt : UsM (up σ 128 31 (us.length : Int)) π us := hU1
  refine V_aload_n (pc := 0) C (dk k_Z_undo 0 rfl) rfl ?_
  refine V_geti (pc := 1) (ji := 31) C (dk k_Z_undo 1 rfl) fl_Z_156 kq_128 (by decide) rfl rfl ?_
  refine V_ifne (pc := 4) C (dk k_Z_undo 2 rfl) 10 rfl (by first | exact hR _ _ | with_reducible assumption | exact ⟨by omega, by omega⟩) (fun h1 => ?_) (fun h1 => ?_)
  · skip
    refine V_aload_n (pc := 10) C (dk k_Z_undo 5 rfl) rfl ?_
    refine V_dupR (pc := 11) C (dk k_Z_undo 6 rfl) ?_
    refine V_geti (pc := 12) (ji := 31) C (dk k_Z_undo 7 rfl) fl_Z_156 kq_128 (by decide) rfl rfl ?_
    rw [u1]
    rw [show ((us.length + 1 : Nat) : Int) = (us.length : Int) + 1 by omega]
    refine V_iconst (pc := 15) C (dk k_Z_undo 8 rfl) rfl ?_
    refine V_isub (pc := 16) C (dk k_Z_undo 9 rfl) ?_
    rw [show (us.length : Int) + 1 - 1 = (us.length : Int) by omega]
    refine V_puti (pc := 17) (ji := 31) C (dk k_Z_undo 10 rfl) fl_Z_156 fw_9_31 kq_128 (by decide) rfl rfl ⟨by omega, by omega⟩ ?_
    refine V_R (fun hR => ?_)
    refine V_aload_n (pc := 20) C (dk k_Z_undo 11 rfl) rfl ?_
    refine V_aload_n (pc := 21) C (dk k_Z_undo 12 rfl) rfl ?_
    refine V_getr (pc := 22) (o2 := 144) C (dk k_Z_undo 13 rfl) fl_Z_55 kq_128 (by decide) rfl (by decide) rfl ?_
    refine V_bipush (pc := 25) (n' := 28) C (dk k_Z_undo 14 rfl) rfl ?_
    refine V_aload_n (pc := 27) C (dk k_Z_undo 15 rfl) rfl ?_
    refine V_geti (pc := 28) (ji := 31) C (dk k_Z_undo 16 rfl) fl_Z_156 kq_128 (by decide) rfl rfl ?_
    rw [up_at]
    refine V_imul (pc := 31) C (dk k_Z_undo 17 rfl) ?_
    refine V_callV0r (pc := 32) C (dk k_Z_undo 18 rfl) lk_Z_209 cm_Z_takes vm_Z_takes (c_Z_takes _ _ _ 144 224 (28 * (us.length : Int)) kq_144 (by decide) (by omega) (by omega) (by decide)) kq_128 rfl rfl rfl (Nat.le_of_ble_eq_true rfl) (Rm.mono hRm (by decide) (by decide)) (fun τ1 hq1 => ?_)
    refine V_R (fun hR => ?_)
    refine V_aload_n (pc := 35) C (dk k_Z_undo 19 rfl) rfl ?_
    refine V_geti (pc := 36) (ji := 31) C (dk k_Z_undo 20 rfl) fl_Z_156 kq_128 (by decide) rfl rfl ?_
    refine V_iret (pc := 39) C E (dk k_Z_undo 21 rfl) ?_
    have f : ∀ (k : Nat) (i : Int), ¬ (133 ≤ k ∧ k ≤ 136) → ¬ (k = 128 ∧ (i = 8 ∨ i = 9 ∨ i = 31)) → τ1 k i = σ k i := fun k i a b => (hq1.2 k i (by omega) (by omega)).trans (up_off _ _ (by omega))
    have hB2 : BkR (up σ 128 31 (us.length : Int)) 144 (28 * (us.length : Int)) π y := hB.fr ok (fun i _ _ => up_ne1 _ _ _ _ (by decide))
    exact ⟨by rw [hq1.2 128 31 (by omega) (by omega), up_at], ⟨hπ0.fx (fun k i a => f k i (by omega) (by omega)), StM.of ok hB2 hq1.1, hUt.fx ok (fun k i a => hq1.2 k i (by omega) (by omega)), hK.fx ok (fun k i a => f k i (by omega) (by omega)), hl.fx (fun k i a => f k i (by omega) (by omega)), hT.fx (fun k i a => f k i (by omega) (by omega))⟩, Fm.of (fun k i a => f k i (by omega) (by omega))⟩
  · skip
    exfalso; omega

set_option maxHeartbeats 1000000 in
set_option maxRecDepth 20000 in
theorem c_Z_undo0 (l : Launch) (G : GE) (σ : Wd) (π : PL) (x : ST) (ks : List ST) (lk : List (Int × (Int × Int))) (tx : List Int) (j : Int) (hC : MR σ π x [] ks lk tx) (hV : VK π x [] ks j) (hj : j ≤ 100) : Ct l G y_Z_undo b_Z_undo 1 (some (.int)) 1 23 [vR 128] σ (Dt (some (vI (-2))) σ) := by
  refine Ct.of cm_Z_undo (Nat.le_of_ble_eq_true rfl) ?_
  intro X hXl hXG hXN hRm C E
  subst hXl; subst hXG
  show V X 0 [some (vR 128)] [] σ
  refine V_R (fun hR => ?_)
  obtain ⟨hπ, hx, hU, hK, hl, hT⟩ := id hC
  obtain ⟨ok, xk, usk, ksk, ks2⟩ := id hV
  have hπ0 := hπ
  obtain ⟨e0, e1, e2, e3, eT, eX⟩ := hπ
  have ⟨k1, k2, k3, k4, k5, k6, kT, kX⟩ := ok
  have hx0 := hx
  obtain ⟨f0, f1, fQ, fT⟩ := hx
  have ⟨x1, x2, x3, x4, xQ, xT⟩ := xk
  obtain ⟨u1, u2, u3⟩ := hU
  rw [List.length_nil] at u1
  refine V_aload_n (pc := 0) C (dk k_Z_undo 0 rfl) rfl ?_
  refine V_geti (pc := 1) (ji := 31) C (dk k_Z_undo 1 rfl) fl_Z_156 kq_128 (by decide) rfl rfl ?_
  refine V_ifne (pc := 4) C (dk k_Z_undo 2 rfl) 10 rfl (by first | exact hR _ _ | with_reducible assumption | exact ⟨by omega, by omega⟩) (fun h1 => ?_) (fun h1 => ?_)
  · skip
    exfalso; omega
  · skip
    refine V_bipush (pc := 7) (n' := (-2)) C (dk k_Z_undo 3 rfl) rfl ?_
    refine V_iret (pc := 9) C E (dk k_Z_undo 4 rfl) ?_
    first | exact ⟨rfl, rfl⟩ | (refine ⟨?_, rfl⟩; first | (rw [if_pos (by omega)]; done) | (rw [if_neg (by omega)]; done))

def i_Z_keep : List (Nat × (Instr × Nat)) := [(0, (.aload_n 0, 1)), (1, (.getfield 159, 3)), (4, (.iconst 2, 1)), (5, (.if_icmp .ne 6, 3)), (8, (.bipush (-3), 2)), (10, (.ireturn, 1)), (11, (.aload_n 0, 1)), (12, (.aload_n 0, 1)), (13, (.getfield 70, 3)), (16, (.bipush 28, 2)), (18, (.aload_n 0, 1)), (19, (.getfield 159, 3)), (22, (.imul, 1)), (23, (.invokevirtual 186, 3)), (26, (.aload_n 0, 1)), (27, (.dup, 1)), (28, (.getfield 159, 3)), (31, (.iconst 1, 1)), (32, (.iadd, 1)), (33, (.putfield 159, 3)), (36, (.aload_n 0, 1)), (37, (.getfield 159, 3)), (40, (.ireturn, 1))]
theorem k_Z_keep : i_Z_keep.all (fun q => decide (decode b_Z_keep q.1 = .ok q.2)) = true := by decide +kernel

set_option maxHeartbeats 1000000 in
set_option maxRecDepth 20000 in
theorem c_Z_keep (l : Launch) (G : GE) (σ : Wd) (π : PL) (x : ST) (us ks : List ST) (lk : List (Int × (Int × Int))) (tx : List Int) (j : Int) (hC : MR σ π x us ks lk tx) (hV : VK π x us ks j) (hj : j ≤ 100) : Ct l G y_Z_keep b_Z_keep 1 (some (.int)) 1 23 [vR 128] σ (Rt (some (vI ((o_keep x ks).1))) (fun σ' => MR σ' π x us (o_keep x ks).2 lk tx ∧ Fm σ σ')) := by
  refine Ct.of cm_Z_keep (Nat.le_of_ble_eq_true rfl) ?_
  intro X hXl hXG hXN hRm C E
  subst hXl; subst hXG
  show V X 0 [some (vR 128)] [] σ
  refine V_R (fun hR => ?_)
  obtain ⟨hπ, hx, hU, hK, hl, hT⟩ := id hC
  obtain ⟨ok, xk, usk, ksk, ks2⟩ := id hV
  have hπ0 := hπ
  obtain ⟨e0, e1, e2, e3, eT, eX⟩ := hπ
  have ⟨k1, k2, k3, k4, k5, k6, kT, kX⟩ := ok
  have hx0 := hx
  obtain ⟨f0, f1, fQ, fT⟩ := hx
  have ⟨x1, x2, x3, x4, xQ, xT⟩ := xk
  obtain ⟨w1, w2, w3⟩ := id hK
  refine V_aload_n (pc := 0) C (dk k_Z_keep 0 rfl) rfl ?_
  refine V_geti (pc := 1) (ji := 38) C (dk k_Z_keep 1 rfl) fl_Z_159 kq_128 (by decide) rfl rfl ?_
  refine V_iconst (pc := 4) C (dk k_Z_keep 2 rfl) rfl ?_
  refine V_icmpne (pc := 5) C (dk k_Z_keep 3 rfl) 11 rfl (by first | exact hR _ _ | with_reducible assumption | exact ⟨by omega, by omega⟩) (by first | exact hR _ _ | with_reducible assumption | exact ⟨by omega, by omega⟩) (fun h1 => ?_) (fun h1 => ?_)
  · skip
    refine V_aload_n (pc := 11) C (dk k_Z_keep 6 rfl) rfl ?_
    refine V_aload_n (pc := 12) C (dk k_Z_keep 7 rfl) rfl ?_
    refine V_getr (pc := 13) (o2 := 149) C (dk k_Z_keep 8 rfl) fl_Z_70 kq_128 (by decide) rfl (by decide) rfl ?_
    refine V_bipush (pc := 16) (n' := 28) C (dk k_Z_keep 9 rfl) rfl ?_
    refine V_aload_n (pc := 18) C (dk k_Z_keep 10 rfl) rfl ?_
    refine V_geti (pc := 19) (ji := 38) C (dk k_Z_keep 11 rfl) fl_Z_159 kq_128 (by decide) rfl rfl ?_
    refine V_imul (pc := 22) C (dk k_Z_keep 12 rfl) ?_
    rw [w1]
    refine V_callV0r (pc := 23) C (dk k_Z_keep 13 rfl) lk_Z_186 cm_Z_lays vm_Z_lays (c_Z_lays _ _ _ 149 56 (28 * (ks.length : Int)) kq_149 (by decide) (by omega) (by omega) (by decide)) kq_128 rfl rfl rfl (Nat.le_of_ble_eq_true rfl) (Rm.mono hRm (by decide) (by decide)) (fun τ1 hq1 => ?_)
    refine V_R (fun hR => ?_)
    refine V_aload_n (pc := 26) C (dk k_Z_keep 14 rfl) rfl ?_
    refine V_dupR (pc := 27) C (dk k_Z_keep 15 rfl) ?_
    refine V_geti (pc := 28) (ji := 38) C (dk k_Z_keep 16 rfl) fl_Z_159 kq_128 (by decide) rfl rfl ?_
    rw [show τ1 128 38 = (ks.length : Int) from (hq1.2 128 38 (by omega)).trans w1]
    refine V_iconst (pc := 31) C (dk k_Z_keep 17 rfl) rfl ?_
    refine V_iadd (pc := 32) C (dk k_Z_keep 18 rfl) ?_
    refine V_puti (pc := 33) (ji := 38) C (dk k_Z_keep 19 rfl) fl_Z_159 fw_9_38 kq_128 (by decide) rfl rfl ⟨by omega, by omega⟩ ?_
    refine V_R (fun hR => ?_)
    refine V_aload_n (pc := 36) C (dk k_Z_keep 20 rfl) rfl ?_
    refine V_geti (pc := 37) (ji := 38) C (dk k_Z_keep 21 rfl) fl_Z_159 kq_128 (by decide) rfl rfl ?_
    refine V_iret (pc := 40) C E (dk k_Z_keep 22 rfl) ?_
    rw [show o_keep x ks = ((ks.length : Int) + 1, x :: ks) from if_neg (by omega)]
    have f : ∀ (k : Nat) (i : Int), k ≠ 149 → ¬ (k = 128 ∧ i = 38) → up τ1 128 38 ((ks.length : Int) + 1) k i = σ k i := fun k i a b => by rw [up_off _ _ b]; exact hq1.2 k i (Or.inl a)
    exact ⟨by rw [up_at], ⟨hπ0.fx (fun k i a => f k i (by omega) (by omega)), hx0.fx (fun k i a => f k i (by omega) (by omega)), hU.fx ok (fun k i a => f k i (by omega) (by omega)), hK.push ok (by omega) (BkR.of ok hx0 hq1.1) hq1.2, hl.fx (fun k i a => f k i (by omega) (by omega)), hT.fx (fun k i a => f k i (by omega) (by omega))⟩, Fm.of (fun k i a => f k i (by omega) (by omega))⟩
  · skip
    refine V_bipush (pc := 8) (n' := (-3)) C (dk k_Z_keep 4 rfl) rfl ?_
    refine V_iret (pc := 10) C E (dk k_Z_keep 5 rfl) ?_
    rw [show o_keep x ks = (-3, ks) from if_pos (by omega)]
    exact ⟨rfl, hC, Fm.rf σ⟩

def i_Z_back : List (Nat × (Instr × Nat)) := [(0, (.aload_n 0, 1)), (1, (.getfield 159, 3)), (4, (.ifCond .ne 6, 3)), (7, (.bipush (-2), 2)), (9, (.ireturn, 1)), (10, (.aload_n 0, 1)), (11, (.dup, 1)), (12, (.getfield 159, 3)), (15, (.iconst 1, 1)), (16, (.isub, 1)), (17, (.putfield 159, 3)), (20, (.aload_n 0, 1)), (21, (.aload_n 0, 1)), (22, (.getfield 70, 3)), (25, (.bipush 28, 2)), (27, (.aload_n 0, 1)), (28, (.getfield 159, 3)), (31, (.imul, 1)), (32, (.invokevirtual 209, 3)), (35, (.aload_n 0, 1)), (36, (.iconst 0, 1)), (37, (.putfield 156, 3)), (40, (.aload_n 0, 1)), (41, (.getfield 159, 3)), (44, (.ireturn, 1))]
theorem k_Z_back : i_Z_back.all (fun q => decide (decode b_Z_back q.1 = .ok q.2)) = true := by decide +kernel

set_option maxHeartbeats 1000000 in
set_option maxRecDepth 20000 in
theorem c_Z_back (l : Launch) (G : GE) (σ : Wd) (π : PL) (x : ST) (y : ST) (us ks : List ST) (lk : List (Int × (Int × Int))) (tx : List Int) (j : Int) (hC : MR σ π x us (y :: ks) lk tx) (hV : VK π x us (y :: ks) j) (hj : j ≤ 100) : Ct l G y_Z_back b_Z_back 1 (some (.int)) 1 23 [vR 128] σ (Rt (some (vI (ks.length))) (fun σ' => MR σ' π y [] ks lk tx ∧ Fm σ σ')) := by
  refine Ct.of cm_Z_back (Nat.le_of_ble_eq_true rfl) ?_
  intro X hXl hXG hXN hRm C E
  subst hXl; subst hXG
  show V X 0 [some (vR 128)] [] σ
  refine V_R (fun hR => ?_)
  obtain ⟨hπ, hx, hU, hK, hl, hT⟩ := id hC
  obtain ⟨ok, xk, usk, ksk, ks2⟩ := id hV
  have hπ0 := hπ
  obtain ⟨e0, e1, e2, e3, eT, eX⟩ := hπ
  have ⟨k1, k2, k3, k4, k5, k6, kT, kX⟩ := ok
  have hx0 := hx
  obtain ⟨f0, f1, fQ, fT⟩ := hx
  have ⟨x1, x2, x3, x4, xQ, xT⟩ := xk
  have hK0 := hK
  obtain ⟨u1, u2, u3⟩ := hK
  rw [List.length_cons] at u1 u2
  obtain ⟨hK1, hB⟩ := hK0.pop ok
  have hKt : KsM (up σ 128 38 (ks.length : Int)) π ks := hK1
  refine V_aload_n (pc := 0) C (dk k_Z_back 0 rfl) rfl ?_
  refine V_geti (pc := 1) (ji := 38) C (dk k_Z_back 1 rfl) fl_Z_159 kq_128 (by decide) rfl rfl ?_
  refine V_ifne (pc := 4) C (dk k_Z_back 2 rfl) 10 rfl (by first | exact hR _ _ | with_reducible assumption | exact ⟨by omega, by omega⟩) (fun h1 => ?_) (fun h1 => ?_)
  · skip
    refine V_aload_n (pc := 10) C (dk k_Z_back 5 rfl) rfl ?_
    refine V_dupR (pc := 11) C (dk k_Z_back 6 rfl) ?_
    refine V_geti (pc := 12) (ji := 38) C (dk k_Z_back 7 rfl) fl_Z_159 kq_128 (by decide) rfl rfl ?_
    rw [u1]
    rw [show ((ks.length + 1 : Nat) : Int) = (ks.length : Int) + 1 by omega]
    refine V_iconst (pc := 15) C (dk k_Z_back 8 rfl) rfl ?_
    refine V_isub (pc := 16) C (dk k_Z_back 9 rfl) ?_
    rw [show (ks.length : Int) + 1 - 1 = (ks.length : Int) by omega]
    refine V_puti (pc := 17) (ji := 38) C (dk k_Z_back 10 rfl) fl_Z_159 fw_9_38 kq_128 (by decide) rfl rfl ⟨by omega, by omega⟩ ?_
    refine V_R (fun hR => ?_)
    refine V_aload_n (pc := 20) C (dk k_Z_back 11 rfl) rfl ?_
    refine V_aload_n (pc := 21) C (dk k_Z_back 12 rfl) rfl ?_
    refine V_getr (pc := 22) (o2 := 149) C (dk k_Z_back 13 rfl) fl_Z_70 kq_128 (by decide) rfl (by decide) rfl ?_
    refine V_bipush (pc := 25) (n' := 28) C (dk k_Z_back 14 rfl) rfl ?_
    refine V_aload_n (pc := 27) C (dk k_Z_back 15 rfl) rfl ?_
    refine V_geti (pc := 28) (ji := 38) C (dk k_Z_back 16 rfl) fl_Z_159 kq_128 (by decide) rfl rfl ?_
    rw [up_at]
    refine V_imul (pc := 31) C (dk k_Z_back 17 rfl) ?_
    refine V_callV0r (pc := 32) C (dk k_Z_back 18 rfl) lk_Z_209 cm_Z_takes vm_Z_takes (c_Z_takes _ _ _ 149 56 (28 * (ks.length : Int)) kq_149 (by decide) (by omega) (by omega) (by decide)) kq_128 rfl rfl rfl (Nat.le_of_ble_eq_true rfl) (Rm.mono hRm (by decide) (by decide)) (fun τ1 hq1 => ?_)
    refine V_R (fun hR => ?_)
    refine V_aload_n (pc := 35) C (dk k_Z_back 19 rfl) rfl ?_
    refine V_iconst (pc := 36) C (dk k_Z_back 20 rfl) rfl ?_
    refine V_puti (pc := 37) (ji := 31) C (dk k_Z_back 21 rfl) fl_Z_156 fw_9_31 kq_128 (by decide) rfl rfl R0 ?_
    refine V_R (fun hR => ?_)
    refine V_aload_n (pc := 40) C (dk k_Z_back 22 rfl) rfl ?_
    refine V_geti (pc := 41) (ji := 38) C (dk k_Z_back 23 rfl) fl_Z_159 kq_128 (by decide) rfl rfl ?_
    refine V_iret (pc := 44) C E (dk k_Z_back 24 rfl) ?_
    have f : ∀ (k : Nat) (i : Int), ¬ (133 ≤ k ∧ k ≤ 136) → ¬ (k = 128 ∧ (i = 8 ∨ i = 9 ∨ i = 31 ∨ i = 38)) → up τ1 128 31 0 k i = σ k i := fun k i a b => (up_off _ _ (by omega)).trans ((hq1.2 k i (by omega) (by omega)).trans (up_off _ _ (by omega)))
    have hB2 : BkR (up σ 128 38 (ks.length : Int)) 149 (28 * (ks.length : Int)) π y := hB.fr ok (fun i _ _ => up_ne1 _ _ _ _ (by decide))
    exact ⟨by rw [up_ne2 _ (by decide), hq1.2 128 38 (by omega) (by omega), up_at], ⟨hπ0.fx (fun k i a => f k i (by omega) (by omega)), (StM.of ok hB2 hq1.1).fx (fun k i a => up_off _ _ (by omega)), ⟨by rw [up_at]; rfl, by simp, fun k y h => by simp at h⟩, hKt.fx ok (fun k i a => (up_off _ _ (by omega)).trans (hq1.2 k i (by omega) (by omega))), hl.fx (fun k i a => f k i (by omega) (by omega)), hT.fx (fun k i a => f k i (by omega) (by omega))⟩, Fm.of (fun k i a => f k i (by omega) (by omega))⟩
  · skip
    exfalso; omega

set_option maxHeartbeats 1000000 in
set_option maxRecDepth 20000 in
theorem c_Z_back0 (l : Launch) (G : GE) (σ : Wd) (π : PL) (x : ST) (us : List ST) (lk : List (Int × (Int × Int))) (tx : List Int) (j : Int) (hC : MR σ π x us [] lk tx) (hV : VK π x us [] j) (hj : j ≤ 100) : Ct l G y_Z_back b_Z_back 1 (some (.int)) 1 23 [vR 128] σ (Dt (some (vI (-2))) σ) := by
  refine Ct.of cm_Z_back (Nat.le_of_ble_eq_true rfl) ?_
  intro X hXl hXG hXN hRm C E
  subst hXl; subst hXG
  show V X 0 [some (vR 128)] [] σ
  refine V_R (fun hR => ?_)
  obtain ⟨hπ, hx, hU, hK, hl, hT⟩ := id hC
  obtain ⟨ok, xk, usk, ksk, ks2⟩ := id hV
  have hπ0 := hπ
  obtain ⟨e0, e1, e2, e3, eT, eX⟩ := hπ
  have ⟨k1, k2, k3, k4, k5, k6, kT, kX⟩ := ok
  have hx0 := hx
  obtain ⟨f0, f1, fQ, fT⟩ := hx
  have ⟨x1, x2, x3, x4, xQ, xT⟩ := xk
  obtain ⟨u1, u2, u3⟩ := hK
  rw [List.length_nil] at u1
  refine V_aload_n (pc := 0) C (dk k_Z_back 0 rfl) rfl ?_
  refine V_geti (pc := 1) (ji := 38) C (dk k_Z_back 1 rfl) fl_Z_159 kq_128 (by decide) rfl rfl ?_
  refine V_ifne (pc := 4) C (dk k_Z_back 2 rfl) 10 rfl (by first | exact hR _ _ | with_reducible assumption | exact ⟨by omega, by omega⟩) (fun h1 => ?_) (fun h1 => ?_)
  · skip
    exfalso; omega
  · skip
    refine V_bipush (pc := 7) (n' := (-2)) C (dk k_Z_back 3 rfl) rfl ?_
    refine V_iret (pc := 9) C E (dk k_Z_back 4 rfl) ?_
    first | exact ⟨rfl, rfl⟩ | (refine ⟨?_, rfl⟩; first | (rw [if_pos (by omega)]; done) | (rw [if_neg (by omega)]; done))

def i_Z_see : List (Nat × (Instr × Nat)) := [(0, (.aload_n 0, 1)), (1, (.iload_n 1, 1)), (2, (.invokevirtual 180, 3)), (5, (.ifCond .eq 23, 3)), (8, (.iload_n 2, 1)), (9, (.iconst 0, 1)), (10, (.bipush 20, 2)), (12, (.invokestatic 93, 3)), (15, (.ifCond .eq 13, 3)), (18, (.iload_n 3, 1)), (19, (.iconst 0, 1)), (20, (.bipush 99, 2)), (22, (.invokestatic 93, 3)), (25, (.ifCond .ne 5, 3)), (28, (.iconst (-1), 1)), (29, (.ireturn, 1)), (30, (.aload_n 0, 1)), (31, (.getfield 153, 3)), (34, (.bipush 6, 2)), (36, (.if_icmp .ne 6, 3)), (39, (.bipush (-3), 2)), (41, (.ireturn, 1)), (42, (.aload_n 0, 1)), (43, (.getfield 34, 3)), (46, (.aload_n 0, 1)), (47, (.getfield 153, 3)), (50, (.iload_n 1, 1)), (51, (.iastore, 1)), (52, (.aload_n 0, 1)), (53, (.getfield 37, 3)), (56, (.aload_n 0, 1)), (57, (.getfield 153, 3)), (60, (.iload_n 2, 1)), (61, (.iastore, 1)), (62, (.aload_n 0, 1)), (63, (.getfield 40, 3)), (66, (.aload_n 0, 1)), (67, (.getfield 153, 3)), (70, (.iload_n 3, 1)), (71, (.iastore, 1)), (72, (.aload_n 0, 1)), (73, (.dup, 1)), (74, (.getfield 153, 3)), (77, (.iconst 1, 1)), (78, (.iadd, 1)), (79, (.putfield 153, 3)), (82, (.aload_n 0, 1)), (83, (.getfield 153, 3)), (86, (.ireturn, 1))]
theorem k_Z_see : i_Z_see.all (fun q => decide (decode b_Z_see q.1 = .ok q.2)) = true := by decide +kernel

set_option maxHeartbeats 1000000 in
set_option maxRecDepth 20000 in
theorem c_Z_see (l : Launch) (G : GE) (σ : Wd) (π : PL) (x : ST) (us ks : List ST) (lk : List (Int × (Int × Int))) (tx : List Int) (j : Int) (hC : MR σ π x us ks lk tx) (hV : VK π x us ks j) (hj : j ≤ 100) (t n v : Int) (ht : inR t) (hn : inR n) (hv : inR v) : Ct l G y_Z_see b_Z_see 4 (some (.int)) 2 43 [vR 128, vI t, vI n, vI v] σ (Rt (some (vI ((o_see π lk t n v).1))) (fun σ' => MR σ' π x us ks (o_see π lk t n v).2 tx ∧ Fm σ σ')) := by
  refine Ct.of cm_Z_see (Nat.le_of_ble_eq_true rfl) ?_
  intro X hXl hXG hXN hRm C E
  subst hXl; subst hXG
  have ⟨ht_1, ht_2⟩ := ht
  have ⟨hn_1, hn_2⟩ := hn
  have ⟨hv_1, hv_2⟩ := hv
  show V X 0 [some (vR 128), some (vI t), some (vI n), some (vI v)] [] σ
  refine V_R (fun hR => ?_)
  obtain ⟨hπ, hx, hU, hK, hl, hT⟩ := id hC
  obtain ⟨ok, xk, usk, ksk, ks2⟩ := id hV
  have hπ0 := hπ
  obtain ⟨e0, e1, e2, e3, eT, eX⟩ := hπ
  have ⟨k1, k2, k3, k4, k5, k6, kT, kX⟩ := ok
  have hx0 := hx
  obtain ⟨f0, f1, fQ, fT⟩ := hx
  have ⟨x1, x2, x3, x4, xQ, xT⟩ := xk
  obtain ⟨l1, l2, l3⟩ := id hl
  refine V_aload_n (pc := 0) C (dk k_Z_see 0 rfl) rfl ?_
  refine V_iload_n (pc := 1) C (dk k_Z_see 1 rfl) rfl ?_
  refine V_callV (pc := 2) C (dk k_Z_see 2 rfl) lk_Z_180 cm_Z_isThing vm_Z_isThing (c_Z_isThing _ _ _ π t hπ0 ok ht) kq_128 rfl rfl rfl (Nat.le_of_ble_eq_true rfl) (Rm.mono hRm (by decide) (by decide)) ?_
  refine V_ifeqB (pc := 5) C (dk k_Z_see 3 rfl) 28 rfl (fun h1 => ?_) (fun h1 => ?_)
  · skip
    refine V_iconst (pc := 28) C (dk k_Z_see 14 rfl) rfl ?_
    refine V_iret (pc := 29) C E (dk k_Z_see 15 rfl) ?_
    rw [show o_see π lk t n v = (-1, lk) from if_neg (by omega)]
    exact ⟨rfl, hC, Fm.rf σ⟩
  · skip
    refine V_iload_n (pc := 8) C (dk k_Z_see 4 rfl) rfl ?_
    refine V_iconst (pc := 9) C (dk k_Z_see 5 rfl) rfl ?_
    refine V_bipush (pc := 10) (n' := 20) C (dk k_Z_see 6 rfl) rfl ?_
    refine V_callS (pc := 12) C (dk k_Z_see 7 rfl) lk_Z_93 cm_Z_in sm_Z_in (c_Z_in _ _ _ n 0 20 hn ⟨by decide, by decide⟩ ⟨by decide, by decide⟩) rfl rfl (Nat.le_of_ble_eq_true rfl) (Rm.mono hRm (by decide) (by decide)) ?_
    refine V_ifeqB (pc := 15) C (dk k_Z_see 8 rfl) 28 rfl (fun h2 => ?_) (fun h2 => ?_)
    · skip
      refine V_iconst (pc := 28) C (dk k_Z_see 14 rfl) rfl ?_
      refine V_iret (pc := 29) C E (dk k_Z_see 15 rfl) ?_
      rw [show o_see π lk t n v = (-1, lk) from if_neg (by omega)]
      exact ⟨rfl, hC, Fm.rf σ⟩
    · skip
      refine V_iload_n (pc := 18) C (dk k_Z_see 9 rfl) rfl ?_
      refine V_iconst (pc := 19) C (dk k_Z_see 10 rfl) rfl ?_
      refine V_bipush (pc := 20) (n' := 99) C (dk k_Z_see 11 rfl) rfl ?_
      refine V_callS (pc := 22) C (dk k_Z_see 12 rfl) lk_Z_93 cm_Z_in sm_Z_in (c_Z_in _ _ _ v 0 99 hv ⟨by decide, by decide⟩ ⟨by decide, by decide⟩) rfl rfl (Nat.le_of_ble_eq_true rfl) (Rm.mono hRm (by decide) (by decide)) ?_
      refine V_ifneB (pc := 25) C (dk k_Z_see 13 rfl) 30 rfl (fun h3 => ?_) (fun h3 => ?_)
      · skip
        refine V_aload_n (pc := 30) C (dk k_Z_see 16 rfl) rfl ?_
        refine V_geti (pc := 31) (ji := 14) C (dk k_Z_see 17 rfl) fl_Z_153 kq_128 (by decide) rfl rfl ?_
        refine V_bipush (pc := 34) (n' := 6) C (dk k_Z_see 18 rfl) rfl ?_
        refine V_icmpne (pc := 36) C (dk k_Z_see 19 rfl) 42 rfl (by first | exact hR _ _ | with_reducible assumption | exact ⟨by omega, by omega⟩) (by first | exact hR _ _ | with_reducible assumption | exact ⟨by omega, by omega⟩) (fun h4 => ?_) (fun h4 => ?_)
        · skip
          refine V_aload_n (pc := 42) C (dk k_Z_see 22 rfl) rfl ?_
          refine V_getr (pc := 43) (o2 := 137) C (dk k_Z_see 23 rfl) fl_Z_34 kq_128 (by decide) rfl (by decide) rfl ?_
          refine V_aload_n (pc := 46) C (dk k_Z_see 24 rfl) rfl ?_
          refine V_geti (pc := 47) (ji := 14) C (dk k_Z_see 25 rfl) fl_Z_153 kq_128 (by decide) rfl rfl ?_
          refine V_iload_n (pc := 50) C (dk k_Z_see 26 rfl) rfl ?_
          rw [l1]
          refine V_iast (pc := 51) C (dk k_Z_see 27 rfl) kq_137 (by decide) (by omega) (by omega) ht ?_
          refine V_R (fun hR => ?_)
          refine V_aload_n (pc := 52) C (dk k_Z_see 28 rfl) rfl ?_
          refine V_getr (pc := 53) (o2 := 138) C (dk k_Z_see 29 rfl) fl_Z_37 kq_128 (by decide) rfl (by decide) rfl ?_
          refine V_aload_n (pc := 56) C (dk k_Z_see 30 rfl) rfl ?_
          refine V_geti (pc := 57) (ji := 14) C (dk k_Z_see 31 rfl) fl_Z_153 kq_128 (by decide) rfl rfl ?_
          refine V_iload_n (pc := 60) C (dk k_Z_see 32 rfl) rfl ?_
          rw [show up σ 137 (lk.length : Int) t 128 14 = (lk.length : Int) from (up_ne1 _ _ _ _ (by decide)).trans l1]
          refine V_iast (pc := 61) C (dk k_Z_see 33 rfl) kq_138 (by decide) (by omega) (by omega) hn ?_
          refine V_R (fun hR => ?_)
          refine V_aload_n (pc := 62) C (dk k_Z_see 34 rfl) rfl ?_
          refine V_getr (pc := 63) (o2 := 139) C (dk k_Z_see 35 rfl) fl_Z_40 kq_128 (by decide) rfl (by decide) rfl ?_
          refine V_aload_n (pc := 66) C (dk k_Z_see 36 rfl) rfl ?_
          refine V_geti (pc := 67) (ji := 14) C (dk k_Z_see 37 rfl) fl_Z_153 kq_128 (by decide) rfl rfl ?_
          refine V_iload_n (pc := 70) C (dk k_Z_see 38 rfl) rfl ?_
          rw [show up (up σ 137 (lk.length : Int) t) 138 (lk.length : Int) n 128 14 = (lk.length : Int) from (up_ne1 _ _ _ _ (by decide)).trans ((up_ne1 _ _ _ _ (by decide)).trans l1)]
          refine V_iast (pc := 71) C (dk k_Z_see 39 rfl) kq_139 (by decide) (by omega) (by omega) hv ?_
          refine V_R (fun hR => ?_)
          refine V_aload_n (pc := 72) C (dk k_Z_see 40 rfl) rfl ?_
          refine V_dupR (pc := 73) C (dk k_Z_see 41 rfl) ?_
          refine V_geti (pc := 74) (ji := 14) C (dk k_Z_see 42 rfl) fl_Z_153 kq_128 (by decide) rfl rfl ?_
          rw [show up (up (up σ 137 (lk.length : Int) t) 138 (lk.length : Int) n) 139 (lk.length : Int) v 128 14 = (lk.length : Int) from (up_ne1 _ _ _ _ (by decide)).trans ((up_ne1 _ _ _ _ (by decide)).trans ((up_ne1 _ _ _ _ (by decide)).trans l1))]
          refine V_iconst (pc := 77) C (dk k_Z_see 43 rfl) rfl ?_
          refine V_iadd (pc := 78) C (dk k_Z_see 44 rfl) ?_
          refine V_puti (pc := 79) (ji := 14) C (dk k_Z_see 45 rfl) fl_Z_153 fw_9_14 kq_128 (by decide) rfl rfl ⟨by omega, by omega⟩ ?_
          refine V_R (fun hR => ?_)
          refine V_aload_n (pc := 82) C (dk k_Z_see 46 rfl) rfl ?_
          refine V_geti (pc := 83) (ji := 14) C (dk k_Z_see 47 rfl) fl_Z_153 kq_128 (by decide) rfl rfl ?_
          refine V_iret (pc := 86) C E (dk k_Z_see 48 rfl) ?_
          rw [show o_see π lk t n v = ((lk.length : Int) + 1, lk ++ [(t, (n, v))]) by unfold o_see; rw [if_pos (by omega), if_pos (by omega)]]
          have f : ∀ (k : Nat) (i : Int), ¬ (137 ≤ k ∧ k ≤ 139) → ¬ (k = 128 ∧ i = 14) → up (up (up (up σ 137 (lk.length : Int) t) 138 (lk.length : Int) n) 139 (lk.length : Int) v) 128 14 ((lk.length : Int) + 1) k i = σ k i := fun k i a b => by rw [up_off _ _ b, up_ne1 _ _ _ _ (by omega), up_ne1 _ _ _ _ (by omega), up_ne1 _ _ _ _ (by omega)]
          exact ⟨by rw [up_at], ⟨hπ0.fx (fun k i a => f k i (by omega) (by omega)), hx0.fx (fun k i a => f k i (by omega) (by omega)), hU.fx ok (fun k i a => f k i (by omega) (by omega)), hK.fx ok (fun k i a => f k i (by omega) (by omega)), hl.add (by omega) (by omega) (by omega) (by omega) (by omega), hT.fx (fun k i a => f k i (by omega) (by omega))⟩, Fm.of (fun k i a => f k i (by omega) (by omega))⟩
        · skip
          refine V_bipush (pc := 39) (n' := (-3)) C (dk k_Z_see 20 rfl) rfl ?_
          refine V_iret (pc := 41) C E (dk k_Z_see 21 rfl) ?_
          rw [show o_see π lk t n v = (-3, lk) by unfold o_see; rw [if_pos (by omega), if_neg (by omega)]]
          exact ⟨rfl, hC, Fm.rf σ⟩
      · skip
        refine V_iconst (pc := 28) C (dk k_Z_see 14 rfl) rfl ?_
        refine V_iret (pc := 29) C E (dk k_Z_see 15 rfl) ?_
        rw [show o_see π lk t n v = (-1, lk) from if_neg (by omega)]
        exact ⟨rfl, hC, Fm.rf σ⟩

def i_Z_forget : List (Nat × (Instr × Nat)) := [(0, (.aload_n 0, 1)), (1, (.getfield 153, 3)), (4, (.istore_n 1, 1)), (5, (.aload_n 0, 1)), (6, (.iconst 0, 1)), (7, (.putfield 153, 3)), (10, (.iload_n 1, 1)), (11, (.ireturn, 1))]
theorem k_Z_forget : i_Z_forget.all (fun q => decide (decode b_Z_forget q.1 = .ok q.2)) = true := by decide +kernel

set_option maxHeartbeats 1000000 in
set_option maxRecDepth 20000 in
theorem c_Z_forget (l : Launch) (G : GE) (σ : Wd) (π : PL) (x : ST) (us ks : List ST) (lk : List (Int × (Int × Int))) (tx : List Int) (j : Int) (hC : MR σ π x us ks lk tx) (hV : VK π x us ks j) (hj : j ≤ 100) : Ct l G y_Z_forget b_Z_forget 2 (some (.int)) 0 0 [vR 128] σ (Rt (some (vI (lk.length))) (fun σ' => MR σ' π x us ks [] tx ∧ Fm σ σ')) := by
  refine Ct.of cm_Z_forget (Nat.le_of_ble_eq_true rfl) ?_
  intro X hXl hXG hXN hRm C E
  subst hXl; subst hXG
  show V X 0 [some (vR 128), none] [] σ
  refine V_R (fun hR => ?_)
  obtain ⟨hπ, hx, hU, hK, hl, hT⟩ := id hC
  obtain ⟨ok, xk, usk, ksk, ks2⟩ := id hV
  have hπ0 := hπ
  obtain ⟨e0, e1, e2, e3, eT, eX⟩ := hπ
  have ⟨k1, k2, k3, k4, k5, k6, kT, kX⟩ := ok
  have hx0 := hx
  obtain ⟨f0, f1, fQ, fT⟩ := hx
  have ⟨x1, x2, x3, x4, xQ, xT⟩ := xk
  obtain ⟨l1, l2, l3⟩ := id hl
  refine V_aload_n (pc := 0) C (dk k_Z_forget 0 rfl) rfl ?_
  refine V_geti (pc := 1) (ji := 14) C (dk k_Z_forget 1 rfl) fl_Z_153 kq_128 (by decide) rfl rfl ?_
  refine V_istore_n (pc := 4) C (dk k_Z_forget 2 rfl) (by rw [hXN]; decide) ?_
  dsimp only [lst, lstL, lz, kill, Fin.val, Nat.reduceAdd]
  refine V_aload_n (pc := 5) C (dk k_Z_forget 3 rfl) rfl ?_
  refine V_iconst (pc := 6) C (dk k_Z_forget 4 rfl) rfl ?_
  refine V_puti (pc := 7) (ji := 14) C (dk k_Z_forget 5 rfl) fl_Z_153 fw_9_14 kq_128 (by decide) rfl rfl R0 ?_
  refine V_R (fun hR => ?_)
  refine V_iload_n (pc := 10) C (dk k_Z_forget 6 rfl) rfl ?_
  refine V_iret (pc := 11) C E (dk k_Z_forget 7 rfl) ?_
  have f : ∀ (k : Nat) (i : Int), True → ¬ (k = 128 ∧ i = 14) → up σ 128 14 0 k i = σ k i := fun k i a b => up_off _ _ b
  exact ⟨by rw [l1], ⟨hπ0.fx (fun k i a => f k i trivial (by omega)), hx0.fx (fun k i a => f k i trivial (by omega)), hU.fx ok (fun k i a => f k i trivial (by omega)), hK.fx ok (fun k i a => f k i trivial (by omega)), ⟨by rw [up_at]; rfl, by simp, fun k c h => by simp at h⟩, hT.fx (fun k i a => f k i trivial (by omega))⟩, Fm.of (fun k i a => f k i trivial (by omega))⟩

def i_Z_count : List (Nat × (Instr × Nat)) := [(0, (.iload_n 1, 1)), (1, (.iconst 0, 1)), (2, (.bipush 11, 2)), (4, (.invokestatic 93, 3)), (7, (.ifCond .ne 5, 3)), (10, (.iconst (-1), 1)), (11, (.ireturn, 1)), (12, (.iload_n 1, 1)), (13, (.tableswitch 122 0 10 #[59, 64, 69, 74, 79, 84, 93, 102, 107, 112, 117], 59)), (72, (.aload_n 0, 1)), (73, (.getfield 73, 3)), (76, (.ireturn, 1)), (77, (.aload_n 0, 1)), (78, (.getfield 81, 3)), (81, (.ireturn, 1)), (82, (.aload_n 0, 1)), (83, (.getfield 87, 3)), (86, (.ireturn, 1)), (87, (.aload_n 0, 1)), (88, (.getfield 90, 3)), (91, (.ireturn, 1)), (92, (.aload_n 0, 1)), (93, (.getfield 150, 3)), (96, (.ireturn, 1)), (97, (.aload_n 0, 1)), (98, (.iconst 1, 1)), (99, (.invokevirtual 265, 3)), (102, (.invokestatic 236, 3)), (105, (.ireturn, 1)), (106, (.aload_n 0, 1)), (107, (.iconst 2, 1)), (108, (.invokevirtual 265, 3)), (111, (.invokestatic 236, 3)), (114, (.ireturn, 1)), (115, (.aload_n 0, 1)), (116, (.invokevirtual 218, 3)), (119, (.ireturn, 1)), (120, (.aload_n 0, 1)), (121, (.getfield 153, 3)), (124, (.ireturn, 1)), (125, (.aload_n 0, 1)), (126, (.getfield 156, 3)), (129, (.ireturn, 1)), (130, (.aload_n 0, 1)), (131, (.getfield 159, 3)), (134, (.ireturn, 1)), (135, (.aload_n 0, 1)), (136, (.getfield 97, 3)), (139, (.ireturn, 1))]
theorem k_Z_count : i_Z_count.all (fun q => decide (decode b_Z_count q.1 = .ok q.2)) = true := by decide +kernel

set_option maxHeartbeats 1000000 in
set_option maxRecDepth 20000 in
theorem c_Z_count (l : Launch) (G : GE) (σ : Wd) (π : PL) (x : ST) (us ks : List ST) (lk : List (Int × (Int × Int))) (tx : List Int) (j : Int) (hC : MR σ π x us ks lk tx) (hV : VK π x us ks j) (hj : j ≤ 100) (k : Int) (hk : inR k) : Ct l G y_Z_count b_Z_count 2 (some (.int)) 1 23 [vR 128, vI k] σ (Dt (some (vI (o_count π x us ks lk tx k))) σ) := by
  refine Ct.of cm_Z_count (Nat.le_of_ble_eq_true rfl) ?_
  intro X hXl hXG hXN hRm C E
  subst hXl; subst hXG
  have ⟨hk_1, hk_2⟩ := hk
  show V X 0 [some (vR 128), some (vI k)] [] σ
  refine V_R (fun hR => ?_)
  obtain ⟨hπ, hx, hU, hK, hl, hT⟩ := id hC
  obtain ⟨ok, xk, usk, ksk, ks2⟩ := id hV
  have hπ0 := hπ
  obtain ⟨e0, e1, e2, e3, eT, eX⟩ := hπ
  have ⟨k1, k2, k3, k4, k5, k6, kT, kX⟩ := ok
  have hx0 := hx
  obtain ⟨f0, f1, fQ, fT⟩ := hx
  have ⟨x1, x2, x3, x4, xQ, xT⟩ := xk
  obtain ⟨l1, l2, l3⟩ := id hl
  obtain ⟨t1, t2, t3⟩ := id hT
  obtain ⟨u1, u2, u3⟩ := id hU
  obtain ⟨w1, w2, w3⟩ := id hK
  refine V_iload_n (pc := 0) C (dk k_Z_count 0 rfl) rfl ?_
  refine V_iconst (pc := 1) C (dk k_Z_count 1 rfl) rfl ?_
  refine V_bipush (pc := 2) (n' := 11) C (dk k_Z_count 2 rfl) rfl ?_
  refine V_callS (pc := 4) C (dk k_Z_count 3 rfl) lk_Z_93 cm_Z_in sm_Z_in (c_Z_in _ _ _ k 0 11 hk ⟨by decide, by decide⟩ ⟨by decide, by decide⟩) rfl rfl (Nat.le_of_ble_eq_true rfl) (Rm.mono hRm (by decide) (by decide)) ?_
  refine V_ifneB (pc := 7) C (dk k_Z_count 4 rfl) 12 rfl (fun h1 => ?_) (fun h1 => ?_)
  · skip
    refine V_iload_n (pc := 12) C (dk k_Z_count 7 rfl) rfl ?_
    refine V_switch (pc := 13) C (dk k_Z_count 8 rfl) (by first | exact hR _ _ | with_reducible assumption | exact ⟨by omega, by omega⟩) (fun h2 tgt ht => ?_) ⟨135, rfl⟩ (fun h2 h2b => ?_)
    · obtain rfl : tgt = 135 := by omega
      refine V_aload_n (pc := 135) C (dk k_Z_count 46 rfl) rfl ?_
      refine V_geti (pc := 136) (ji := 19) C (dk k_Z_count 47 rfl) fl_Z_97 kq_128 (by decide) rfl rfl ?_
      refine V_iret (pc := 139) C E (dk k_Z_count 48 rfl) ?_
      exact ⟨by unfold o_count; rw [if_neg (by omega), if_neg (by omega), if_neg (by omega), if_neg (by omega), if_neg (by omega), if_neg (by omega), if_neg (by omega), if_neg (by omega), if_neg (by omega), if_neg (by omega), if_neg (by omega), if_pos (by omega), t1], rfl⟩
    · skip
      have h2c : k = 0 ∨ k = 1 ∨ k = 2 ∨ k = 3 ∨ k = 4 ∨ k = 5 ∨ k = 6 ∨ k = 7 ∨ k = 8 ∨ k = 9 ∨ k = 10 := by omega
      rcases h2c with h2d | h2d | h2d | h2d | h2d | h2d | h2d | h2d | h2d | h2d | h2d
      · refine ⟨59, 72, by rw [h2d]; rfl, rfl, ?_⟩
        refine V_aload_n (pc := 72) C (dk k_Z_count 9 rfl) rfl ?_
        refine V_geti (pc := 73) (ji := 0) C (dk k_Z_count 10 rfl) fl_Z_73 kq_128 (by decide) rfl rfl ?_
        refine V_iret (pc := 76) C E (dk k_Z_count 11 rfl) ?_
        exact ⟨by unfold o_count; rw [if_pos (by omega), e0], rfl⟩
      · refine ⟨64, 77, by rw [h2d]; rfl, rfl, ?_⟩
        refine V_aload_n (pc := 77) C (dk k_Z_count 12 rfl) rfl ?_
        refine V_geti (pc := 78) (ji := 1) C (dk k_Z_count 13 rfl) fl_Z_81 kq_128 (by decide) rfl rfl ?_
        refine V_iret (pc := 81) C E (dk k_Z_count 14 rfl) ?_
        exact ⟨by unfold o_count; rw [if_neg (by omega), if_pos (by omega), e1], rfl⟩
      · refine ⟨69, 82, by rw [h2d]; rfl, rfl, ?_⟩
        refine V_aload_n (pc := 82) C (dk k_Z_count 15 rfl) rfl ?_
        refine V_geti (pc := 83) (ji := 9) C (dk k_Z_count 16 rfl) fl_Z_87 kq_128 (by decide) rfl rfl ?_
        refine V_iret (pc := 86) C E (dk k_Z_count 17 rfl) ?_
        exact ⟨by unfold o_count; rw [if_neg (by omega), if_neg (by omega), if_pos (by omega), f1], rfl⟩
      · refine ⟨74, 87, by rw [h2d]; rfl, rfl, ?_⟩
        refine V_aload_n (pc := 87) C (dk k_Z_count 18 rfl) rfl ?_
        refine V_geti (pc := 88) (ji := 3) C (dk k_Z_count 19 rfl) fl_Z_90 kq_128 (by decide) rfl rfl ?_
        refine V_iret (pc := 91) C E (dk k_Z_count 20 rfl) ?_
        exact ⟨by unfold o_count; rw [if_neg (by omega), if_neg (by omega), if_neg (by omega), if_pos (by omega), e3], rfl⟩
      · refine ⟨79, 92, by rw [h2d]; rfl, rfl, ?_⟩
        refine V_aload_n (pc := 92) C (dk k_Z_count 21 rfl) rfl ?_
        refine V_geti (pc := 93) (ji := 8) C (dk k_Z_count 22 rfl) fl_Z_150 kq_128 (by decide) rfl rfl ?_
        refine V_iret (pc := 96) C E (dk k_Z_count 23 rfl) ?_
        exact ⟨by unfold o_count; rw [if_neg (by omega), if_neg (by omega), if_neg (by omega), if_neg (by omega), if_pos (by omega), f0], rfl⟩
      · refine ⟨84, 97, by rw [h2d]; rfl, rfl, ?_⟩
        refine V_aload_n (pc := 97) C (dk k_Z_count 24 rfl) rfl ?_
        refine V_iconst (pc := 98) C (dk k_Z_count 25 rfl) rfl ?_
        refine V_callV (pc := 99) C (dk k_Z_count 26 rfl) lk_Z_265 cm_Z_thoseIn vm_Z_thoseIn (c_Z_thoseIn _ _ _ π x j hπ0 ok hx0 xk (by omega) 1 ⟨by decide, by decide⟩) kq_128 rfl rfl rfl (Nat.le_of_ble_eq_true rfl) (Rm.mono hRm (by decide) (by decide)) ?_
        have hbb := bs_256 (fun t => decide (sP x t = 1)) (show pN π ≤ 8 by omega)
        rw [show bs (fun t => decide (sP x t = 1)) (pN π) = (((bs (fun t => decide (sP x t = 1)) (pN π)).toNat : Nat) : Int) by omega]
        refine V_callS (pc := 102) C (dk k_Z_count 27 rfl) lk_Z_236 cm_Z_bits sm_Z_bits (c_Z_bits _ _ _ (bs (fun t => decide (sP x t = 1)) (pN π)).toNat (by omega)) rfl rfl (Nat.le_of_ble_eq_true rfl) (Rm.mono hRm (by decide) (by decide)) ?_
        refine V_iret (pc := 105) C E (dk k_Z_count 28 rfl) ?_
        exact ⟨by unfold o_count; rw [if_neg (by omega), if_neg (by omega), if_neg (by omega), if_neg (by omega), if_neg (by omega), if_pos (by omega), cnt_dec (sP x) 1 (by omega)], rfl⟩
      · refine ⟨93, 106, by rw [h2d]; rfl, rfl, ?_⟩
        refine V_aload_n (pc := 106) C (dk k_Z_count 29 rfl) rfl ?_
        refine V_iconst (pc := 107) C (dk k_Z_count 30 rfl) rfl ?_
        refine V_callV (pc := 108) C (dk k_Z_count 31 rfl) lk_Z_265 cm_Z_thoseIn vm_Z_thoseIn (c_Z_thoseIn _ _ _ π x j hπ0 ok hx0 xk (by omega) 2 ⟨by decide, by decide⟩) kq_128 rfl rfl rfl (Nat.le_of_ble_eq_true rfl) (Rm.mono hRm (by decide) (by decide)) ?_
        have hbb := bs_256 (fun t => decide (sP x t = 2)) (show pN π ≤ 8 by omega)
        rw [show bs (fun t => decide (sP x t = 2)) (pN π) = (((bs (fun t => decide (sP x t = 2)) (pN π)).toNat : Nat) : Int) by omega]
        refine V_callS (pc := 111) C (dk k_Z_count 32 rfl) lk_Z_236 cm_Z_bits sm_Z_bits (c_Z_bits _ _ _ (bs (fun t => decide (sP x t = 2)) (pN π)).toNat (by omega)) rfl rfl (Nat.le_of_ble_eq_true rfl) (Rm.mono hRm (by decide) (by decide)) ?_
        refine V_iret (pc := 114) C E (dk k_Z_count 33 rfl) ?_
        exact ⟨by unfold o_count; rw [if_neg (by omega), if_neg (by omega), if_neg (by omega), if_neg (by omega), if_neg (by omega), if_neg (by omega), if_pos (by omega), cnt_dec (sP x) 2 (by omega)], rfl⟩
      · refine ⟨102, 115, by rw [h2d]; rfl, rfl, ?_⟩
        refine V_aload_n (pc := 115) C (dk k_Z_count 34 rfl) rfl ?_
        refine V_callV (pc := 116) C (dk k_Z_count 35 rfl) lk_Z_218 cm_Z_nearIn vm_Z_nearIn (c_Z_nearIn _ _ _ π x j hπ0 ok hx0 xk (by omega)) kq_128 rfl rfl rfl (Nat.le_of_ble_eq_true rfl) (Rm.mono hRm (by decide) (by decide)) ?_
        refine V_iret (pc := 119) C E (dk k_Z_count 36 rfl) ?_
        exact ⟨by unfold o_count cellar; rw [if_neg (by omega), if_neg (by omega), if_neg (by omega), if_neg (by omega), if_neg (by omega), if_neg (by omega), if_neg (by omega), if_pos (by omega)], rfl⟩
      · refine ⟨107, 120, by rw [h2d]; rfl, rfl, ?_⟩
        refine V_aload_n (pc := 120) C (dk k_Z_count 37 rfl) rfl ?_
        refine V_geti (pc := 121) (ji := 14) C (dk k_Z_count 38 rfl) fl_Z_153 kq_128 (by decide) rfl rfl ?_
        refine V_iret (pc := 124) C E (dk k_Z_count 39 rfl) ?_
        exact ⟨by unfold o_count; rw [if_neg (by omega), if_neg (by omega), if_neg (by omega), if_neg (by omega), if_neg (by omega), if_neg (by omega), if_neg (by omega), if_neg (by omega), if_pos (by omega), l1], rfl⟩
      · refine ⟨112, 125, by rw [h2d]; rfl, rfl, ?_⟩
        refine V_aload_n (pc := 125) C (dk k_Z_count 40 rfl) rfl ?_
        refine V_geti (pc := 126) (ji := 31) C (dk k_Z_count 41 rfl) fl_Z_156 kq_128 (by decide) rfl rfl ?_
        refine V_iret (pc := 129) C E (dk k_Z_count 42 rfl) ?_
        exact ⟨by unfold o_count; rw [if_neg (by omega), if_neg (by omega), if_neg (by omega), if_neg (by omega), if_neg (by omega), if_neg (by omega), if_neg (by omega), if_neg (by omega), if_neg (by omega), if_pos (by omega), u1], rfl⟩
      · refine ⟨117, 130, by rw [h2d]; rfl, rfl, ?_⟩
        refine V_aload_n (pc := 130) C (dk k_Z_count 43 rfl) rfl ?_
        refine V_geti (pc := 131) (ji := 38) C (dk k_Z_count 44 rfl) fl_Z_159 kq_128 (by decide) rfl rfl ?_
        refine V_iret (pc := 134) C E (dk k_Z_count 45 rfl) ?_
        exact ⟨by unfold o_count; rw [if_neg (by omega), if_neg (by omega), if_neg (by omega), if_neg (by omega), if_neg (by omega), if_neg (by omega), if_neg (by omega), if_neg (by omega), if_neg (by omega), if_neg (by omega), if_pos (by omega), w1], rfl⟩
  · skip
    refine V_iconst (pc := 10) C (dk k_Z_count 5 rfl) rfl ?_
    refine V_iret (pc := 11) C E (dk k_Z_count 6 rfl) ?_
    exact ⟨by unfold o_count; rw [if_neg (by omega), if_neg (by omega), if_neg (by omega), if_neg (by omega), if_neg (by omega), if_neg (by omega), if_neg (by omega), if_neg (by omega), if_neg (by omega), if_neg (by omega), if_neg (by omega), if_neg (by omega)], rfl⟩
