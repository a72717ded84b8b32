theorem days_D (π : PL) (x : ST) : ∀ i : Nat, sD (daysX π x i) = sD x + i
  | 0 => by show sD x = sD x + ((0 : Nat) : Int); omega
  | i + 1 => by
    show sD (daysX π x i) + 1 = _
    rw [days_D π x i]; omega
theorem nx_0 (k d : Int) : nx k 0 d = 0 := if_pos (Int.le_refl 0)
theorem days_C {π : PL} {x : ST} {t : Int} (h1 : sP x t = 1) (h0 : sN x t ≠ 0) : ∀ i : Nat, sN (daysX π x i) t = cel (pK π t) (sN x t) (sD x) i ∧ sP (daysX π x i) t = if cel (pK π t) (sN x t) (sD x) i = 0 then 2 else 1
  | 0 => ⟨rfl, by rw [show cel (pK π t) (sN x t) (sD x) 0 = sN x t from rfl, if_neg h0]; exact h1⟩
  | i + 1 => by
    obtain ⟨a, b⟩ := days_C (π := π) h1 h0 i
    have e1 : sN (daysX π x (i + 1)) t = nxN π (daysX π x i) t := rfl
    have e2 : sP (daysX π x (i + 1)) t = nxP π (daysX π x i) t := rfl
    have e3 : cel (pK π t) (sN x t) (sD x) (i + 1) = nx (pK π t) (cel (pK π t) (sN x t) (sD x) i) (sD x + i) := rfl
    rw [e1, e2, e3]
    unfold nxN nxP
    rw [a, days_D]
    by_cases hz : cel (pK π t) (sN x t) (sD x) i = 0
    · rw [if_pos hz] at b
      rw [b, if_neg (by decide), if_neg (by decide), hz, nx_0, if_pos rfl]
      exact ⟨rfl, rfl⟩
    · rw [if_neg hz] at b
      rw [if_pos b, if_pos b]
      exact ⟨rfl, rfl⟩
theorem days_N {π : PL} {x : ST} {t : Int} (h1 : sP x t ≠ 1) : ∀ i : Nat, sN (daysX π x i) t = sN x t ∧ sP (daysX π x i) t = sP x t
  | 0 => ⟨rfl, rfl⟩
  | i + 1 => by
    obtain ⟨a, b⟩ := days_N (π := π) h1 i
    have e1 : sN (daysX π x (i + 1)) t = nxN π (daysX π x i) t := rfl
    have e2 : sP (daysX π x (i + 1)) t = nxP π (daysX π x i) t := rfl
    rw [e1, e2]
    unfold nxN nxP
    rw [b, if_neg h1, if_neg h1]
    exact ⟨a, rfl⟩
def prZ (x : ST) (v : Int) (n a b : Nat) : Int := if prI x v a (n - b) b = -4 then prO x v n (n - (a + 1)) (a + 1) else prI x v a (n - b) b
theorem prZ_0 (x : ST) (v : Int) (n a : Nat) : prZ x v n a n = prO x v n (n - (a + 1)) (a + 1) := by
  unfold prZ; rw [Nat.sub_self, prI, if_pos rfl]
theorem prZ_e (x : ST) (v : Int) {n a : Nat} (h : a < n) : prZ x v n a (a + 1) = prO x v n (n - a) a := by
  rw [show n - a = (n - (a + 1)) + 1 by omega, prO]; rfl
theorem prZ_y {x : ST} {v : Int} {n a b : Nat} (h : b < n) (hf : pfit x v a b) : prZ x v n a b = 10 * (a : Int) + b := by
  unfold prZ
  rw [show n - b = (n - (b + 1)) + 1 by omega, prI, if_pos hf, if_neg (by omega)]
theorem prZ_n {x : ST} {v : Int} {n a b : Nat} (h : b < n) (hf : ¬ pfit x v a b) : prZ x v n a b = prZ x v n a (b + 1) := by
  unfold prZ
  rw [show n - b = (n - (b + 1)) + 1 by omega, prI, if_neg hf]
theorem lk_s {f : Int × (Int × Int) → Bool} {lk : List (Int × (Int × Int))} {i : Nat} {q : Int × (Int × Int)} (h : lk[i]? = some q) : (lk.take (i + 1)).all f = ((lk.take i).all f && f q) := by
  rw [List.take_succ, h, List.all_append]
  simp only [Option.toList, List.all_cons, List.all_nil, Bool.and_true]
theorem lkq_t {t k n d : Int} {q : Int × (Int × Int)} : lkq t k n d q = true ↔ (q.1 = t → cel k n d q.2.1.toNat = q.2.2) := by
  unfold lkq
  by_cases h : q.1 = t
  · rw [decide_eq_true h]; simp [h]
  · rw [decide_eq_false h]; simp [h]
theorem fin_q {A d f : Int} (hd : 0 < d) : A ≤ f * d ↔ (A + d - 1) / d ≤ f := by
  rw [Int.le_iff_lt_add_one (a := (A + d - 1) / d), Int.ediv_lt_iff_lt_mul hd, Int.add_mul, Int.one_mul]
  omega

def i_Z_behind : List (Nat × (Instr × Nat)) := [(0, (.iload_n 1, 1)), (1, (.iconst 0, 1)), (2, (.bipush 40, 2)), (4, (.invokestatic 93, 3)), (7, (.ifCond .eq 11, 3)), (10, (.aload_n 0, 1)), (11, (.iload_n 2, 1)), (12, (.invokevirtual 180, 3)), (15, (.ifCond .ne 5, 3)), (18, (.iconst (-1), 1)), (19, (.ireturn, 1)), (20, (.aload_n 0, 1)), (21, (.invokevirtual 212, 3)), (24, (.aload_n 0, 1)), (25, (.iload_n 1, 1)), (26, (.invokevirtual 206, 3)), (29, (.aload_n 0, 1)), (30, (.getfield 28, 3)), (33, (.iload_n 2, 1)), (34, (.iaload, 1)), (35, (.istore_n 3, 1)), (36, (.aload_n 0, 1)), (37, (.invokevirtual 215, 3)), (40, (.iload_n 3, 1)), (41, (.ireturn, 1))]
theorem k_Z_behind : i_Z_behind.all (fun q => decide (decode b_Z_behind q.1 = .ok q.2)) = true := by decide +kernel

set_option maxHeartbeats 1000000 in
set_option maxRecDepth 20000 in
theorem c_Z_behind (l : Launch) (G : GE) (σ : Wd) (π : PL) (x : ST) (us ks : List ST) (lk : List (Int × (Int × Int))) (tx : List Int) (j : Int) (hC : MR σ π x us ks lk tx) (hV : VK π x us ks j) (hj : j ≤ 100) (n t : Int) (hn : inR n) (ht : inR t) : Ct l G y_Z_behind b_Z_behind 4 (some (.int)) 3 66 [vR 128, vI n, vI t] σ (Rt (some (vI (o_behind π x n t))) (fun σ' => MR σ' π x us ks lk tx ∧ Fm σ σ')) := by
  refine Ct.of cm_Z_behind (Nat.le_of_ble_eq_true rfl) ?_
  intro X hXl hXG hXN hRm C E
  subst hXl; subst hXG
  have ⟨hn_1, hn_2⟩ := hn
  have ⟨ht_1, ht_2⟩ := ht
  show V X 0 [some (vR 128), some (vI n), some (vI t), none] [] σ
  refine V_R (fun hR => ?_)
  obtain ⟨hπ, hx, hU, hK, hl, hT⟩ := id hC
  obtain ⟨ok, xk, usk, ksk, ks2⟩ := id hV
  have hπ0 := hπ
  obtain ⟨e0, e1, e2, e3, eT, eX⟩ := hπ
  have ⟨k1, k2, k3, k4, k5, k6, kT, kX⟩ := ok
  have hx0 := hx
  obtain ⟨f0, f1, fQ, fT⟩ := hx
  have ⟨x1, x2, x3, x4, xQ, xT⟩ := xk
  refine V_iload_n (pc := 0) C (dk k_Z_behind 0 rfl) rfl ?_
  refine V_iconst (pc := 1) C (dk k_Z_behind 1 rfl) rfl ?_
  refine V_bipush (pc := 2) (n' := 40) C (dk k_Z_behind 2 rfl) rfl ?_
  refine V_callS (pc := 4) C (dk k_Z_behind 3 rfl) lk_Z_93 cm_Z_in sm_Z_in (c_Z_in _ _ _ n 0 40 hn ⟨by decide, by decide⟩ ⟨by decide, by decide⟩) rfl rfl (Nat.le_of_ble_eq_true rfl) (Rm.mono hRm (by decide) (by decide)) ?_
  refine V_ifeqB (pc := 7) C (dk k_Z_behind 4 rfl) 18 rfl (fun h1 => ?_) (fun h1 => ?_)
  · skip
    refine V_iconst (pc := 18) C (dk k_Z_behind 9 rfl) rfl ?_
    refine V_iret (pc := 19) C E (dk k_Z_behind 10 rfl) ?_
    rw [show o_behind π x n t = -1 from if_neg (by omega)]
    exact ⟨rfl, hC, Fm.rf σ⟩
  · skip
    refine V_aload_n (pc := 10) C (dk k_Z_behind 5 rfl) rfl ?_
    refine V_iload_n (pc := 11) C (dk k_Z_behind 6 rfl) rfl ?_
    refine V_callV (pc := 12) C (dk k_Z_behind 7 rfl) lk_Z_180 cm_Z_isThing vm_Z_isThing (c_Z_isThing _ _ _ π t hπ0 ok ht) kq_128 rfl rfl rfl (Nat.le_of_ble_eq_true rfl) (Rm.mono hRm (by decide) (by decide)) ?_
    refine V_ifneB (pc := 15) C (dk k_Z_behind 8 rfl) 20 rfl (fun h2 => ?_) (fun h2 => ?_)
    · skip
      refine V_aload_n (pc := 20) C (dk k_Z_behind 11 rfl) rfl ?_
      refine V_callV0r (pc := 21) C (dk k_Z_behind 12 rfl) lk_Z_212 cm_Z_begin vm_Z_begin (c_Z_begin _ _ _ π x ok hx0) kq_128 rfl rfl rfl (Nat.le_of_ble_eq_true rfl) (Rm.mono hRm (by decide) (by decide)) (fun τ1 hq1 => ?_)
      refine V_R (fun hR => ?_)
      refine V_aload_n (pc := 24) C (dk k_Z_behind 13 rfl) rfl ?_
      refine V_iload_n (pc := 25) C (dk k_Z_behind 14 rfl) rfl ?_
      refine V_callV0r (pc := 26) C (dk k_Z_behind 15 rfl) lk_Z_206 cm_Z_goesOn vm_Z_goesOn (c_Z_goesOn _ _ _ π x j (hπ0.fx (fun k i a => hq1.2 k i (Or.inl (by omega)))) ok (hx0.fx (fun k i a => hq1.2 k i (Or.inl (by omega)))) xk (by omega) n (by omega) (by omega)) kq_128 rfl rfl rfl (Nat.le_of_ble_eq_true rfl) (Rm.mono hRm (by decide) (by decide)) (fun τ2 hq2 => ?_)
      refine V_R (fun hR => ?_)
      refine V_aload_n (pc := 29) C (dk k_Z_behind 16 rfl) rfl ?_
      refine V_getr (pc := 30) (o2 := 135) C (dk k_Z_behind 17 rfl) fl_Z_28 kq_128 (by decide) rfl (by decide) rfl ?_
      refine V_iload_n (pc := 33) C (dk k_Z_behind 18 rfl) rfl ?_
      refine V_iald (pc := 34) C (dk k_Z_behind 19 rfl) kq_135 (by decide) (by omega) (by omega) ?_
      rw [(hq2.1.2.2.2 t (by omega) (by omega)).1]
      refine V_istore_n (pc := 35) C (dk k_Z_behind 20 rfl) (by rw [hXN]; decide) ?_
      dsimp only [lst, lstL, lz, kill, Fin.val, Nat.reduceAdd]
      refine V_aload_n (pc := 36) C (dk k_Z_behind 21 rfl) rfl ?_
      refine V_callV0r (pc := 37) C (dk k_Z_behind 22 rfl) lk_Z_215 cm_Z_putBack vm_Z_putBack (c_Z_putBack _ _ _ π x ok (hq1.1.fr ok (fun i _ _ => hq2.2 145 (0 + i) (by omega) (by omega)))) kq_128 rfl rfl rfl (Nat.le_of_ble_eq_true rfl) (Rm.mono hRm (by decide) (by decide)) (fun τ3 hq3 => ?_)
      refine V_R (fun hR => ?_)
      refine V_iload_n (pc := 40) C (dk k_Z_behind 23 rfl) rfl ?_
      refine V_iret (pc := 41) C E (dk k_Z_behind 24 rfl) ?_
      have hFX : FrX σ τ3 := hq1.2.x.tr (hq2.2.x.tr hq3.2.x)
      refine ⟨?_, MR.st ok hC hFX hq3.1, hFX.m⟩
      unfold o_behind
      rw [if_pos (by omega)]
      by_cases hp : sP x t = 1
      · rw [if_pos hp, (days_C hp (by have := (xT t (by omega) (by omega)).2.2.2.2; omega) n.toNat).1]
      · rw [if_neg hp, (days_N hp n.toNat).1]
    · skip
      refine V_iconst (pc := 18) C (dk k_Z_behind 9 rfl) rfl ?_
      refine V_iret (pc := 19) C E (dk k_Z_behind 10 rfl) ?_
      rw [show o_behind π x n t = -1 from if_neg (by omega)]
      exact ⟨rfl, hC, Fm.rf σ⟩

def i_Z_heard : List (Nat × (Instr × Nat)) := [(0, (.iload_n 1, 1)), (1, (.iconst 1, 1)), (2, (.sipush 999, 3)), (5, (.invokestatic 93, 3)), (8, (.ifCond .ne 5, 3)), (11, (.iconst (-1), 1)), (12, (.ireturn, 1)), (13, (.aload_n 0, 1)), (14, (.invokevirtual 212, 3)), (17, (.iconst 0, 1)), (18, (.istore_n 2, 1)), (19, (.iload_n 2, 1)), (20, (.bipush 60, 2)), (22, (.if_icmp .ge 21, 3)), (25, (.aload_n 0, 1)), (26, (.invokevirtual 218, 3)), (29, (.iload_n 1, 1)), (30, (.if_icmp .ge 13, 3)), (33, (.aload_n 0, 1)), (34, (.invokevirtual 170, 3)), (37, (.iinc 2 1, 3)), (40, (.goto (-21), 3)), (43, (.aload_n 0, 1)), (44, (.invokevirtual 218, 3)), (47, (.iload_n 1, 1)), (48, (.if_icmp .lt 7, 3)), (51, (.iconst 1, 1)), (52, (.goto 4, 3)), (55, (.iconst 0, 1)), (56, (.istore_n 3, 1)), (57, (.aload_n 0, 1)), (58, (.invokevirtual 215, 3)), (61, (.iload_n 3, 1)), (62, (.ifCond .eq 7, 3)), (65, (.iload_n 2, 1)), (66, (.goto 5, 3)), (69, (.bipush (-4), 2)), (71, (.ireturn, 1))]
theorem k_Z_heard : i_Z_heard.all (fun q => decide (decode b_Z_heard q.1 = .ok q.2)) = true := by decide +kernel

set_option maxHeartbeats 1000000 in
set_option maxRecDepth 20000 in
theorem c_Z_heard (l : Launch) (G : GE) (σ : Wd) (π : PL) (x : ST) (us ks : List ST) (lk : List (Int × (Int × Int))) (tx : List Int) (j : Int) (hC : MR σ π x us ks lk tx) (hV : VK π x us ks j) (hj : j ≤ 100) (h : Int) (hh : inR h) : Ct l G y_Z_heard b_Z_heard 4 (some (.int)) 2 44 [vR 128, vI h] σ (Rt (some (vI (o_heard π x h))) (fun σ' => MR σ' π x us ks lk tx ∧ Fm σ σ')) := by
  refine Ct.of cm_Z_heard (Nat.le_of_ble_eq_true rfl) ?_
  intro X hXl hXG hXN hRm C E
  subst hXl; subst hXG
  have ⟨hh_1, hh_2⟩ := hh
  show V X 0 [some (vR 128), some (vI h), none, none] [] σ
  refine V_R (fun hR => ?_)
  obtain ⟨hπ, hx, hU, hK, hl, hT⟩ := id hC
  obtain ⟨ok, xk, usk, ksk, ks2⟩ := id hV
  have hπ0 := hπ
  obtain ⟨e0, e1, e2, e3, eT, eX⟩ := hπ
  have ⟨k1, k2, k3, k4, k5, k6, kT, kX⟩ := ok
  have hx0 := hx
  obtain ⟨f0, f1, fQ, fT⟩ := hx
  have ⟨x1, x2, x3, x4, xQ, xT⟩ := xk
  refine V_iload_n (pc := 0) C (dk k_Z_heard 0 rfl) rfl ?_
  refine V_iconst (pc := 1) C (dk k_Z_heard 1 rfl) rfl ?_
  refine V_sipush (pc := 2) (n' := 999) C (dk k_Z_heard 2 rfl) rfl ?_
  refine V_callS (pc := 5) C (dk k_Z_heard 3 rfl) lk_Z_93 cm_Z_in sm_Z_in (c_Z_in _ _ _ h 1 999 hh ⟨by decide, by decide⟩ ⟨by decide, by decide⟩) rfl rfl (Nat.le_of_ble_eq_true rfl) (Rm.mono hRm (by decide) (by decide)) ?_
  refine V_ifneB (pc := 8) C (dk k_Z_heard 4 rfl) 13 rfl (fun h1 => ?_) (fun h1 => ?_)
  · skip
    refine V_aload_n (pc := 13) C (dk k_Z_heard 7 rfl) rfl ?_
    refine V_callV0r (pc := 14) C (dk k_Z_heard 8 rfl) lk_Z_212 cm_Z_begin vm_Z_begin (c_Z_begin _ _ _ π x ok hx0) kq_128 rfl rfl rfl (Nat.le_of_ble_eq_true rfl) (Rm.mono hRm (by decide) (by decide)) (fun τ1 hq1 => ?_)
    refine V_R (fun hR => ?_)
    refine V_iconst (pc := 17) C (dk k_Z_heard 9 rfl) rfl ?_
    refine V_istore_n (pc := 18) C (dk k_Z_heard 10 rfl) (by rw [hXN]; decide) ?_
    dsimp only [lst, lstL, lz, kill, Fin.val, Nat.reduceAdd]
    refine V_eq (V_loop (fun q : Nat × Wd => q.1 ≤ 60 ∧ StM q.2 π (daysX π x q.1) ∧ FrZ τ1 q.2 ∧ o_heard π x h = hrd π x h (61 - q.1) q.1) (fun q => [some (vR 128), some (vI h), some (vI (q.1 : Int)), none]) (fun q => q.2) (fun q => 60 - q.1) (fun q hq ih => ?_) (0, τ1) ⟨Nat.zero_le 60, (hx0.fx (fun k i a => hq1.2 k i (Or.inl (by omega)))), FrZ.rf _, if_pos (by omega)⟩) rfl rfl rfl
    obtain ⟨i, τ⟩ := q
    obtain ⟨hi, hx1, hfr, ho⟩ := hq
    dsimp only at hi hx1 hfr ho ih ⊢
    refine V_R (fun hR => ?_)
    have xk2 := (days_ok ok xk i).ok (i := j + 3) (by omega) (by omega)
    have ⟨cb0, cb1⟩ := cellar_b ok xk2
    have gP : PlM τ π := (hπ0.fx (fun k i a => hq1.2 k i (Or.inl (by omega)))).fr hfr
    refine V_iload_n (pc := 19) C (dk k_Z_heard 11 rfl) rfl ?_
    refine V_bipush (pc := 20) (n' := 60) C (dk k_Z_heard 12 rfl) rfl ?_
    refine V_icmpge (pc := 22) C (dk k_Z_heard 13 rfl) 43 rfl (by first | exact hR _ _ | with_reducible assumption | exact ⟨by omega, by omega⟩) (by first | exact hR _ _ | with_reducible assumption | exact ⟨by omega, by omega⟩) (fun h2 => ?_) (fun h2 => ?_)
    · skip
      refine V_aload_n (pc := 43) C (dk k_Z_heard 22 rfl) rfl ?_
      refine V_callV (pc := 44) C (dk k_Z_heard 23 rfl) lk_Z_218 cm_Z_nearIn vm_Z_nearIn (c_Z_nearIn _ _ _ π (daysX π x i) (j + 3) gP ok hx1 xk2 (by omega)) kq_128 rfl rfl rfl (Nat.le_of_ble_eq_true rfl) (Rm.mono hRm (by decide) (by decide)) ?_
      refine V_iload_n (pc := 47) C (dk k_Z_heard 24 rfl) rfl ?_
      refine V_icmplt (pc := 48) C (dk k_Z_heard 25 rfl) 55 rfl (by first | exact hR _ _ | with_reducible assumption | exact ⟨by omega, by omega⟩) (by first | exact hR _ _ | with_reducible assumption | exact ⟨by omega, by omega⟩) (fun h3 => ?_) (fun h3 => ?_)
      · skip
        refine V_iconst (pc := 55) C (dk k_Z_heard 28 rfl) rfl ?_
        refine V_istore_n (pc := 56) C (dk k_Z_heard 29 rfl) (by rw [hXN]; decide) ?_
        dsimp only [lst, lstL, lz, kill, Fin.val, Nat.reduceAdd]
        refine V_aload_n (pc := 57) C (dk k_Z_heard 30 rfl) rfl ?_
        refine V_callV0r (pc := 58) C (dk k_Z_heard 31 rfl) lk_Z_215 cm_Z_putBack vm_Z_putBack (c_Z_putBack _ _ _ π x ok (hq1.1.fr ok (fun i _ _ => hfr 145 (0 + i) (by omega) (by omega)))) kq_128 rfl rfl rfl (Nat.le_of_ble_eq_true rfl) (Rm.mono hRm (by decide) (by decide)) (fun τ3 hq3 => ?_)
        refine V_R (fun hR => ?_)
        refine V_iload_n (pc := 61) C (dk k_Z_heard 32 rfl) rfl ?_
        refine V_ifeq (pc := 62) C (dk k_Z_heard 33 rfl) 69 rfl (by first | exact hR _ _ | with_reducible assumption | exact ⟨by omega, by omega⟩) (fun h4 => ?_) (fun h4 => ?_)
        · skip
          refine V_bipush (pc := 69) (n' := (-4)) C (dk k_Z_heard 36 rfl) rfl ?_
          refine V_iret (pc := 71) C E (dk k_Z_heard 37 rfl) ?_
          have hFX : FrX σ τ3 := hq1.2.x.tr (hfr.x.tr hq3.2.x)
          first | (exfalso; omega) | (rw [ho, show 61 - i = (61 - (i + 1)) + 1 by omega, hrd, if_pos (by omega)]; exact ⟨rfl, MR.st ok hC hFX hq3.1, hFX.m⟩) | (obtain rfl : i = 60 := (by omega); rw [ho, show 61 - 60 = 0 + 1 from rfl, hrd, if_neg (by omega), hrd]; exact ⟨rfl, MR.st ok hC hFX hq3.1, hFX.m⟩)
        · skip
          refine V_iload_n (pc := 65) C (dk k_Z_heard 34 rfl) rfl ?_
          refine V_goto (pc := 66) C (dk k_Z_heard 35 rfl) 71 rfl ?_
          refine V_iret (pc := 71) C E (dk k_Z_heard 37 rfl) ?_
          have hFX : FrX σ τ3 := hq1.2.x.tr (hfr.x.tr hq3.2.x)
          first | (exfalso; omega) | (rw [ho, show 61 - i = (61 - (i + 1)) + 1 by omega, hrd, if_pos (by omega)]; exact ⟨rfl, MR.st ok hC hFX hq3.1, hFX.m⟩) | (obtain rfl : i = 60 := (by omega); rw [ho, show 61 - 60 = 0 + 1 from rfl, hrd, if_neg (by omega), hrd]; exact ⟨rfl, MR.st ok hC hFX hq3.1, hFX.m⟩)
      · skip
        refine V_iconst (pc := 51) C (dk k_Z_heard 26 rfl) rfl ?_
        refine V_goto (pc := 52) C (dk k_Z_heard 27 rfl) 56 rfl ?_
        refine V_istore_n (pc := 56) C (dk k_Z_heard 29 rfl) (by rw [hXN]; decide) ?_
        dsimp only [lst, lstL, lz, kill, Fin.val, Nat.reduceAdd]
        refine V_aload_n (pc := 57) C (dk k_Z_heard 30 rfl) rfl ?_
        refine V_callV0r (pc := 58) C (dk k_Z_heard 31 rfl) lk_Z_215 cm_Z_putBack vm_Z_putBack (c_Z_putBack _ _ _ π x ok (hq1.1.fr ok (fun i _ _ => hfr 145 (0 + i) (by omega) (by omega)))) kq_128 rfl rfl rfl (Nat.le_of_ble_eq_true rfl) (Rm.mono hRm (by decide) (by decide)) (fun τ3 hq3 => ?_)
        refine V_R (fun hR => ?_)
        refine V_iload_n (pc := 61) C (dk k_Z_heard 32 rfl) rfl ?_
        refine V_ifeq (pc := 62) C (dk k_Z_heard 33 rfl) 69 rfl (by first | exact hR _ _ | with_reducible assumption | exact ⟨by omega, by omega⟩) (fun h5 => ?_) (fun h5 => ?_)
        · skip
          refine V_bipush (pc := 69) (n' := (-4)) C (dk k_Z_heard 36 rfl) rfl ?_
          refine V_iret (pc := 71) C E (dk k_Z_heard 37 rfl) ?_
          have hFX : FrX σ τ3 := hq1.2.x.tr (hfr.x.tr hq3.2.x)
          first | (exfalso; omega) | (rw [ho, show 61 - i = (61 - (i + 1)) + 1 by omega, hrd, if_pos (by omega)]; exact ⟨rfl, MR.st ok hC hFX hq3.1, hFX.m⟩) | (obtain rfl : i = 60 := (by omega); rw [ho, show 61 - 60 = 0 + 1 from rfl, hrd, if_neg (by omega), hrd]; exact ⟨rfl, MR.st ok hC hFX hq3.1, hFX.m⟩)
        · skip
          refine V_iload_n (pc := 65) C (dk k_Z_heard 34 rfl) rfl ?_
          refine V_goto (pc := 66) C (dk k_Z_heard 35 rfl) 71 rfl ?_
          refine V_iret (pc := 71) C E (dk k_Z_heard 37 rfl) ?_
          have hFX : FrX σ τ3 := hq1.2.x.tr (hfr.x.tr hq3.2.x)
          first | (exfalso; omega) | (rw [ho, show 61 - i = (61 - (i + 1)) + 1 by omega, hrd, if_pos (by omega)]; exact ⟨rfl, MR.st ok hC hFX hq3.1, hFX.m⟩) | (obtain rfl : i = 60 := (by omega); rw [ho, show 61 - 60 = 0 + 1 from rfl, hrd, if_neg (by omega), hrd]; exact ⟨rfl, MR.st ok hC hFX hq3.1, hFX.m⟩)
    · skip
      refine V_aload_n (pc := 25) C (dk k_Z_heard 14 rfl) rfl ?_
      refine V_callV (pc := 26) C (dk k_Z_heard 15 rfl) lk_Z_218 cm_Z_nearIn vm_Z_nearIn (c_Z_nearIn _ _ _ π (daysX π x i) (j + 3) gP ok hx1 xk2 (by omega)) kq_128 rfl rfl rfl (Nat.le_of_ble_eq_true rfl) (Rm.mono hRm (by decide) (by decide)) ?_
      refine V_iload_n (pc := 29) C (dk k_Z_heard 16 rfl) rfl ?_
      refine V_icmpge (pc := 30) C (dk k_Z_heard 17 rfl) 43 rfl (by first | exact hR _ _ | with_reducible assumption | exact ⟨by omega, by omega⟩) (by first | exact hR _ _ | with_reducible assumption | exact ⟨by omega, by omega⟩) (fun h6 => ?_) (fun h6 => ?_)
      · skip
        refine V_aload_n (pc := 43) C (dk k_Z_heard 22 rfl) rfl ?_
        refine V_callV (pc := 44) C (dk k_Z_heard 23 rfl) lk_Z_218 cm_Z_nearIn vm_Z_nearIn (c_Z_nearIn _ _ _ π (daysX π x i) (j + 3) gP ok hx1 xk2 (by omega)) kq_128 rfl rfl rfl (Nat.le_of_ble_eq_true rfl) (Rm.mono hRm (by decide) (by decide)) ?_
        refine V_iload_n (pc := 47) C (dk k_Z_heard 24 rfl) rfl ?_
        refine V_icmplt (pc := 48) C (dk k_Z_heard 25 rfl) 55 rfl (by first | exact hR _ _ | with_reducible assumption | exact ⟨by omega, by omega⟩) (by first | exact hR _ _ | with_reducible assumption | exact ⟨by omega, by omega⟩) (fun h7 => ?_) (fun h7 => ?_)
        · skip
          refine V_iconst (pc := 55) C (dk k_Z_heard 28 rfl) rfl ?_
          refine V_istore_n (pc := 56) C (dk k_Z_heard 29 rfl) (by rw [hXN]; decide) ?_
          dsimp only [lst, lstL, lz, kill, Fin.val, Nat.reduceAdd]
          refine V_aload_n (pc := 57) C (dk k_Z_heard 30 rfl) rfl ?_
          refine V_callV0r (pc := 58) C (dk k_Z_heard 31 rfl) lk_Z_215 cm_Z_putBack vm_Z_putBack (c_Z_putBack _ _ _ π x ok (hq1.1.fr ok (fun i _ _ => hfr 145 (0 + i) (by omega) (by omega)))) kq_128 rfl rfl rfl (Nat.le_of_ble_eq_true rfl) (Rm.mono hRm (by decide) (by decide)) (fun τ3 hq3 => ?_)
          refine V_R (fun hR => ?_)
          refine V_iload_n (pc := 61) C (dk k_Z_heard 32 rfl) rfl ?_
          refine V_ifeq (pc := 62) C (dk k_Z_heard 33 rfl) 69 rfl (by first | exact hR _ _ | with_reducible assumption | exact ⟨by omega, by omega⟩) (fun h8 => ?_) (fun h8 => ?_)
          · skip
            refine V_bipush (pc := 69) (n' := (-4)) C (dk k_Z_heard 36 rfl) rfl ?_
            refine V_iret (pc := 71) C E (dk k_Z_heard 37 rfl) ?_
            have hFX : FrX σ τ3 := hq1.2.x.tr (hfr.x.tr hq3.2.x)
            first | (exfalso; omega) | (rw [ho, show 61 - i = (61 - (i + 1)) + 1 by omega, hrd, if_pos (by omega)]; exact ⟨rfl, MR.st ok hC hFX hq3.1, hFX.m⟩) | (obtain rfl : i = 60 := (by omega); rw [ho, show 61 - 60 = 0 + 1 from rfl, hrd, if_neg (by omega), hrd]; exact ⟨rfl, MR.st ok hC hFX hq3.1, hFX.m⟩)
          · skip
            refine V_iload_n (pc := 65) C (dk k_Z_heard 34 rfl) rfl ?_
            refine V_goto (pc := 66) C (dk k_Z_heard 35 rfl) 71 rfl ?_
            refine V_iret (pc := 71) C E (dk k_Z_heard 37 rfl) ?_
            have hFX : FrX σ τ3 := hq1.2.x.tr (hfr.x.tr hq3.2.x)
            first | (exfalso; omega) | (rw [ho, show 61 - i = (61 - (i + 1)) + 1 by omega, hrd, if_pos (by omega)]; exact ⟨rfl, MR.st ok hC hFX hq3.1, hFX.m⟩) | (obtain rfl : i = 60 := (by omega); rw [ho, show 61 - 60 = 0 + 1 from rfl, hrd, if_neg (by omega), hrd]; exact ⟨rfl, MR.st ok hC hFX hq3.1, hFX.m⟩)
        · skip
          refine V_iconst (pc := 51) C (dk k_Z_heard 26 rfl) rfl ?_
          refine V_goto (pc := 52) C (dk k_Z_heard 27 rfl) 56 rfl ?_
          refine V_istore_n (pc := 56) C (dk k_Z_heard 29 rfl) (by rw [hXN]; decide) ?_
          dsimp only [lst, lstL, lz, kill, Fin.val, Nat.reduceAdd]
          refine V_aload_n (pc := 57) C (dk k_Z_heard 30 rfl) rfl ?_
          refine V_callV0r (pc := 58) C (dk k_Z_heard 31 rfl) lk_Z_215 cm_Z_putBack vm_Z_putBack (c_Z_putBack _ _ _ π x ok (hq1.1.fr ok (fun i _ _ => hfr 145 (0 + i) (by omega) (by omega)))) kq_128 rfl rfl rfl (Nat.le_of_ble_eq_true rfl) (Rm.mono hRm (by decide) (by decide)) (fun τ3 hq3 => ?_)
          refine V_R (fun hR => ?_)
          refine V_iload_n (pc := 61) C (dk k_Z_heard 32 rfl) rfl ?_
          refine V_ifeq (pc := 62) C (dk k_Z_heard 33 rfl) 69 rfl (by first | exact hR _ _ | with_reducible assumption | exact ⟨by omega, by omega⟩) (fun h9 => ?_) (fun h9 => ?_)
          · skip
            refine V_bipush (pc := 69) (n' := (-4)) C (dk k_Z_heard 36 rfl) rfl ?_
            refine V_iret (pc := 71) C E (dk k_Z_heard 37 rfl) ?_
            have hFX : FrX σ τ3 := hq1.2.x.tr (hfr.x.tr hq3.2.x)
            first | (exfalso; omega) | (rw [ho, show 61 - i = (61 - (i + 1)) + 1 by omega, hrd, if_pos (by omega)]; exact ⟨rfl, MR.st ok hC hFX hq3.1, hFX.m⟩) | (obtain rfl : i = 60 := (by omega); rw [ho, show 61 - 60 = 0 + 1 from rfl, hrd, if_neg (by omega), hrd]; exact ⟨rfl, MR.st ok hC hFX hq3.1, hFX.m⟩)
          · skip
            refine V_iload_n (pc := 65) C (dk k_Z_heard 34 rfl) rfl ?_
            refine V_goto (pc := 66) C (dk k_Z_heard 35 rfl) 71 rfl ?_
            refine V_iret (pc := 71) C E (dk k_Z_heard 37 rfl) ?_
            have hFX : FrX σ τ3 := hq1.2.x.tr (hfr.x.tr hq3.2.x)
            first | (exfalso; omega) | (rw [ho, show 61 - i = (61 - (i + 1)) + 1 by omega, hrd, if_pos (by omega)]; exact ⟨rfl, MR.st ok hC hFX hq3.1, hFX.m⟩) | (obtain rfl : i = 60 := (by omega); rw [ho, show 61 - 60 = 0 + 1 from rfl, hrd, if_neg (by omega), hrd]; exact ⟨rfl, MR.st ok hC hFX hq3.1, hFX.m⟩)
      · skip
        refine V_aload_n (pc := 33) C (dk k_Z_heard 18 rfl) rfl ?_
        refine V_callV0r (pc := 34) C (dk k_Z_heard 19 rfl) lk_Z_170 cm_Z_passes vm_Z_passes (c_Z_passes _ _ _ π (daysX π x i) (j + 3) gP ok hx1 xk2 (by omega)) kq_128 rfl rfl rfl (Nat.le_of_ble_eq_true rfl) (Rm.mono hRm (by decide) (by decide)) (fun τ2 hq2 => ?_)
        refine V_R (fun hR => ?_)
        refine V_iinc (pc := 37) C (dk k_Z_heard 20 rfl) (by rw [hXN]; decide) rfl ?_
        dsimp only [lst, lstL, lz, kill, Fin.val, Nat.reduceAdd]
        refine V_goto (pc := 40) C (dk k_Z_heard 21 rfl) 19 rfl ?_
        exact ih (i + 1, τ2) ⟨by dsimp only; omega, hq2.1, hfr.tr hq2.2, by rw [ho, show 61 - i = (61 - (i + 1)) + 1 by omega, hrd, if_neg (by omega)]⟩ (by dsimp only; omega)
  · skip
    refine V_iconst (pc := 11) C (dk k_Z_heard 5 rfl) rfl ?_
    refine V_iret (pc := 12) C E (dk k_Z_heard 6 rfl) ?_
    rw [show o_heard π x h = -1 from if_neg (by omega)]
    exact ⟨rfl, hC, Fm.rf σ⟩

def i_Z_when : List (Nat × (Instr × Nat)) := [(0, (.aload_n 0, 1)), (1, (.iload_n 1, 1)), (2, (.invokevirtual 180, 3)), (5, (.ifCond .eq 12, 3)), (8, (.iload_n 2, 1)), (9, (.iconst 0, 1)), (10, (.iconst 1, 1)), (11, (.invokestatic 93, 3)), (14, (.ifCond .ne 5, 3)), (17, (.iconst (-1), 1)), (18, (.ireturn, 1)), (19, (.aload_n 0, 1)), (20, (.getfield 31, 3)), (23, (.iload_n 1, 1)), (24, (.iaload, 1)), (25, (.ifCond .eq 6, 3)), (28, (.bipush (-2), 2)), (30, (.ireturn, 1)), (31, (.iconst 0, 1)), (32, (.istore_n 3, 1)), (33, (.iconst 1, 1)), (34, (.istore 4, 2)), (36, (.iload 4, 2)), (38, (.bipush 20, 2)), (40, (.if_icmp .gt 54, 3)), (43, (.aload_n 0, 1)), (44, (.getfield 28, 3)), (47, (.iload_n 1, 1)), (48, (.iaload, 1)), (49, (.aload_n 0, 1)), (50, (.aload_n 0, 1)), (51, (.getfield 150, 3)), (54, (.iload 4, 2)), (56, (.iadd, 1)), (57, (.invokevirtual 162, 3)), (60, (.imul, 1)), (61, (.aload_n 0, 1)), (62, (.getfield 28, 3)), (65, (.iload_n 1, 1)), (66, (.iaload, 1)), (67, (.aload_n 0, 1)), (68, (.aload_n 0, 1)), (69, (.getfield 150, 3)), (72, (.iload_n 3, 1)), (73, (.iadd, 1)), (74, (.invokevirtual 162, 3)), (77, (.imul, 1)), (78, (.if_icmp .le 8, 3)), (81, (.iload 4, 2)), (83, (.goto 4, 3)), (86, (.iload_n 3, 1)), (87, (.istore_n 3, 1)), (88, (.iinc 4 1, 3)), (91, (.goto (-55), 3)), (94, (.iload_n 2, 1)), (95, (.ifCond .ne 7, 3)), (98, (.iload_n 3, 1)), (99, (.goto 20, 3)), (102, (.aload_n 0, 1)), (103, (.getfield 28, 3)), (106, (.iload_n 1, 1)), (107, (.iaload, 1)), (108, (.aload_n 0, 1)), (109, (.aload_n 0, 1)), (110, (.getfield 150, 3)), (113, (.iload_n 3, 1)), (114, (.iadd, 1)), (115, (.invokevirtual 162, 3)), (118, (.imul, 1)), (119, (.ireturn, 1))]
theorem k_Z_when : i_Z_when.all (fun q => decide (decode b_Z_when q.1 = .ok q.2)) = true := by decide +kernel

set_option maxHeartbeats 1000000 in
set_option maxRecDepth 20000 in
theorem c_Z_when (l : Launch) (G : GE) (σ : Wd) (π : PL) (x : ST) (us ks : List ST) (lk : List (Int × (Int × Int))) (tx : List Int) (j : Int) (hC : MR σ π x us ks lk tx) (hV : VK π x us ks j) (hj : j ≤ 100) (t k : Int) (ht : inR t) (hk : inR k) : Ct l G y_Z_when b_Z_when 5 (some (.int)) 2 43 [vR 128, vI t, vI k] σ (Dt (some (vI (o_when π x t k))) σ) := by
  refine Ct.of cm_Z_when (Nat.le_of_ble_eq_true rfl) ?_
  intro X hXl hXG hXN hRm C E
  subst hXl; subst hXG
  have ⟨ht_1, ht_2⟩ := ht
  have ⟨hk_1, hk_2⟩ := hk
  show V X 0 [some (vR 128), some (vI t), some (vI k), none, none] [] σ
  refine V_R (fun hR => ?_)
  obtain ⟨hπ, hx, hU, hK, hl, hT⟩ := id hC
  obtain ⟨ok, xk, usk, ksk, ks2⟩ := id hV
  have hπ0 := hπ
  obtain ⟨e0, e1, e2, e3, eT, eX⟩ := hπ
  have ⟨k1, k2, k3, k4, k5, k6, kT, kX⟩ := ok
  have hx0 := hx
  obtain ⟨f0, f1, fQ, fT⟩ := hx
  have ⟨x1, x2, x3, x4, xQ, xT⟩ := xk
  refine V_aload_n (pc := 0) C (dk k_Z_when 0 rfl) rfl ?_
  refine V_iload_n (pc := 1) C (dk k_Z_when 1 rfl) rfl ?_
  refine V_callV (pc := 2) C (dk k_Z_when 2 rfl) lk_Z_180 cm_Z_isThing vm_Z_isThing (c_Z_isThing _ _ _ π t hπ0 ok ht) kq_128 rfl rfl rfl (Nat.le_of_ble_eq_true rfl) (Rm.mono hRm (by decide) (by decide)) ?_
  refine V_ifeqB (pc := 5) C (dk k_Z_when 3 rfl) 17 rfl (fun h1 => ?_) (fun h1 => ?_)
  · skip
    refine V_iconst (pc := 17) C (dk k_Z_when 9 rfl) rfl ?_
    refine V_iret (pc := 18) C E (dk k_Z_when 10 rfl) ?_
    exact ⟨by unfold o_when; rw [if_neg (by omega)], rfl⟩
  · skip
    refine V_iload_n (pc := 8) C (dk k_Z_when 4 rfl) rfl ?_
    refine V_iconst (pc := 9) C (dk k_Z_when 5 rfl) rfl ?_
    refine V_iconst (pc := 10) C (dk k_Z_when 6 rfl) rfl ?_
    refine V_callS (pc := 11) C (dk k_Z_when 7 rfl) lk_Z_93 cm_Z_in sm_Z_in (c_Z_in _ _ _ k 0 1 hk ⟨by decide, by decide⟩ ⟨by decide, by decide⟩) rfl rfl (Nat.le_of_ble_eq_true rfl) (Rm.mono hRm (by decide) (by decide)) ?_
    refine V_ifneB (pc := 14) C (dk k_Z_when 8 rfl) 19 rfl (fun h2 => ?_) (fun h2 => ?_)
    · skip
      refine V_aload_n (pc := 19) C (dk k_Z_when 11 rfl) rfl ?_
      obtain ⟨gN, gP⟩ := fT t (by omega) (by omega)
      refine V_getr (pc := 20) (o2 := 136) C (dk k_Z_when 12 rfl) fl_Z_31 kq_128 (by decide) rfl (by decide) rfl ?_
      refine V_iload_n (pc := 23) C (dk k_Z_when 13 rfl) rfl ?_
      refine V_iald (pc := 24) C (dk k_Z_when 14 rfl) kq_136 (by decide) (by omega) (by omega) ?_
      refine V_ifeq (pc := 25) C (dk k_Z_when 15 rfl) 31 rfl (by first | exact hR _ _ | with_reducible assumption | exact ⟨by omega, by omega⟩) (fun h3 => ?_) (fun h3 => ?_)
      · skip
        refine V_iconst (pc := 31) C (dk k_Z_when 18 rfl) rfl ?_
        refine V_istore_n (pc := 32) C (dk k_Z_when 19 rfl) (by rw [hXN]; decide) ?_
        dsimp only [lst, lstL, lz, kill, Fin.val, Nat.reduceAdd]
        refine V_iconst (pc := 33) C (dk k_Z_when 20 rfl) rfl ?_
        refine V_istore (pc := 34) C (dk k_Z_when 21 rfl) (by rw [hXN]; decide) ?_
        dsimp only [lst, lstL, lz, kill, Fin.val, Nat.reduceAdd]
        refine V_eq (V_loop (fun i : Nat => i ≤ 20) (fun i => [some (vR 128), some (vI t), some (vI k), some (vI (whn π x t i)), some (vI ((i : Int) + 1))]) (fun _ => σ) (fun i => 20 - i) (fun i hi ih => ?_) 0 (by decide)) rfl rfl rfl
        have ⟨wb0, wb1⟩ := whn_b π x t i
        have hp1 := pr_b (d := sD x + ((i : Int) + 1)) ok xk (t := t) (by omega) (by omega)
        have hp2 := pr_b (d := sD x + whn π x t i) ok xk (t := t) (by omega) (by omega)
        refine V_iload (pc := 36) C (dk k_Z_when 22 rfl) rfl ?_
        refine V_bipush (pc := 38) (n' := 20) C (dk k_Z_when 23 rfl) rfl ?_
        refine V_icmpgt (pc := 40) C (dk k_Z_when 24 rfl) 94 rfl (by first | exact hR _ _ | with_reducible assumption | exact ⟨by omega, by omega⟩) (by first | exact hR _ _ | with_reducible assumption | exact ⟨by omega, by omega⟩) (fun h4 => ?_) (fun h4 => ?_)
        · skip
          refine V_iload_n (pc := 94) C (dk k_Z_when 54 rfl) rfl ?_
          refine V_ifne (pc := 95) C (dk k_Z_when 55 rfl) 102 rfl (by first | exact hR _ _ | with_reducible assumption | exact ⟨by omega, by omega⟩) (fun h5 => ?_) (fun h5 => ?_)
          · skip
            refine V_aload_n (pc := 102) C (dk k_Z_when 58 rfl) rfl ?_
            refine V_getr (pc := 103) (o2 := 135) C (dk k_Z_when 59 rfl) fl_Z_28 kq_128 (by decide) rfl (by decide) rfl ?_
            refine V_iload_n (pc := 106) C (dk k_Z_when 60 rfl) rfl ?_
            refine V_iald (pc := 107) C (dk k_Z_when 61 rfl) kq_135 (by decide) (by omega) (by omega) ?_
            rw [gN]
            refine V_aload_n (pc := 108) C (dk k_Z_when 62 rfl) rfl ?_
            refine V_aload_n (pc := 109) C (dk k_Z_when 63 rfl) rfl ?_
            refine V_geti (pc := 110) (ji := 8) C (dk k_Z_when 64 rfl) fl_Z_150 kq_128 (by decide) rfl rfl ?_
            refine V_iload_n (pc := 113) C (dk k_Z_when 65 rfl) rfl ?_
            refine V_iadd (pc := 114) C (dk k_Z_when 66 rfl) ?_
            rw [f0]
            refine V_callV (pc := 115) C (dk k_Z_when 67 rfl) lk_Z_162 cm_Z_rateOf vm_Z_rateOf (c_Z_rateOf _ _ _ π (sD x + whn π x t i) hπ0 ok ⟨by omega, by omega⟩ (by omega)) kq_128 rfl rfl rfl (Nat.le_of_ble_eq_true rfl) (Rm.mono hRm (by decide) (by decide)) ?_
            refine V_imul (pc := 118) C (dk k_Z_when 68 rfl) ?_
            refine V_iret (pc := 119) C E (dk k_Z_when 69 rfl) ?_
            obtain rfl : i = 20 := by omega
            exact ⟨by unfold o_when; rw [if_pos (by omega), if_pos (by omega)]; first | rw [if_pos (by omega)] | rw [if_neg (by omega)], rfl⟩
          · skip
            refine V_iload_n (pc := 98) C (dk k_Z_when 56 rfl) rfl ?_
            refine V_goto (pc := 99) C (dk k_Z_when 57 rfl) 119 rfl ?_
            refine V_iret (pc := 119) C E (dk k_Z_when 69 rfl) ?_
            obtain rfl : i = 20 := by omega
            exact ⟨by unfold o_when; rw [if_pos (by omega), if_pos (by omega)]; first | rw [if_pos (by omega)] | rw [if_neg (by omega)], rfl⟩
        · skip
          refine V_aload_n (pc := 43) C (dk k_Z_when 25 rfl) rfl ?_
          refine V_getr (pc := 44) (o2 := 135) C (dk k_Z_when 26 rfl) fl_Z_28 kq_128 (by decide) rfl (by decide) rfl ?_
          refine V_iload_n (pc := 47) C (dk k_Z_when 27 rfl) rfl ?_
          refine V_iald (pc := 48) C (dk k_Z_when 28 rfl) kq_135 (by decide) (by omega) (by omega) ?_
          rw [gN]
          refine V_aload_n (pc := 49) C (dk k_Z_when 29 rfl) rfl ?_
          refine V_aload_n (pc := 50) C (dk k_Z_when 30 rfl) rfl ?_
          refine V_geti (pc := 51) (ji := 8) C (dk k_Z_when 31 rfl) fl_Z_150 kq_128 (by decide) rfl rfl ?_
          refine V_iload (pc := 54) C (dk k_Z_when 32 rfl) rfl ?_
          refine V_iadd (pc := 56) C (dk k_Z_when 33 rfl) ?_
          rw [f0]
          refine V_callV (pc := 57) C (dk k_Z_when 34 rfl) lk_Z_162 cm_Z_rateOf vm_Z_rateOf (c_Z_rateOf _ _ _ π (sD x + ((i : Int) + 1)) hπ0 ok ⟨by omega, by omega⟩ (by omega)) kq_128 rfl rfl rfl (Nat.le_of_ble_eq_true rfl) (Rm.mono hRm (by decide) (by decide)) ?_
          refine V_imul (pc := 60) C (dk k_Z_when 35 rfl) ?_
          refine V_aload_n (pc := 61) C (dk k_Z_when 36 rfl) rfl ?_
          refine V_getr (pc := 62) (o2 := 135) C (dk k_Z_when 37 rfl) fl_Z_28 kq_128 (by decide) rfl (by decide) rfl ?_
          refine V_iload_n (pc := 65) C (dk k_Z_when 38 rfl) rfl ?_
          refine V_iald (pc := 66) C (dk k_Z_when 39 rfl) kq_135 (by decide) (by omega) (by omega) ?_
          rw [gN]
          refine V_aload_n (pc := 67) C (dk k_Z_when 40 rfl) rfl ?_
          refine V_aload_n (pc := 68) C (dk k_Z_when 41 rfl) rfl ?_
          refine V_geti (pc := 69) (ji := 8) C (dk k_Z_when 42 rfl) fl_Z_150 kq_128 (by decide) rfl rfl ?_
          refine V_iload_n (pc := 72) C (dk k_Z_when 43 rfl) rfl ?_
          refine V_iadd (pc := 73) C (dk k_Z_when 44 rfl) ?_
          rw [f0]
          refine V_callV (pc := 74) C (dk k_Z_when 45 rfl) lk_Z_162 cm_Z_rateOf vm_Z_rateOf (c_Z_rateOf _ _ _ π (sD x + whn π x t i) hπ0 ok ⟨by omega, by omega⟩ (by omega)) kq_128 rfl rfl rfl (Nat.le_of_ble_eq_true rfl) (Rm.mono hRm (by decide) (by decide)) ?_
          refine V_imul (pc := 77) C (dk k_Z_when 46 rfl) ?_
          refine V_icmple (pc := 78) C (dk k_Z_when 47 rfl) 86 rfl ⟨by omega, by omega⟩ ⟨by omega, by omega⟩ (fun h6 => ?_) (fun h6 => ?_)
          · skip
            refine V_iload_n (pc := 86) C (dk k_Z_when 50 rfl) rfl ?_
            refine V_istore_n (pc := 87) C (dk k_Z_when 51 rfl) (by rw [hXN]; decide) ?_
            dsimp only [lst, lstL, lz, kill, Fin.val, Nat.reduceAdd]
            refine V_iinc (pc := 88) C (dk k_Z_when 52 rfl) (by rw [hXN]; decide) rfl ?_
            dsimp only [lst, lstL, lz, kill, Fin.val, Nat.reduceAdd]
            refine V_goto (pc := 91) C (dk k_Z_when 53 rfl) 36 rfl ?_
            refine V_eq (ih (i + 1) (by omega) (by omega)) ?_ rfl rfl
            rw [whn]
            first | rw [if_pos (show sN x t * rt π (sD x + whn π x t i) < sN x t * rt π (sD x + (i + 1 : Nat)) by rw [Int.natCast_add]; exact Int.not_le.mp (by assumption))] | rw [if_neg (show ¬ sN x t * rt π (sD x + whn π x t i) < sN x t * rt π (sD x + (i + 1 : Nat)) by rw [Int.natCast_add]; exact Int.not_lt.mpr (by assumption))]
            rfl
          · skip
            refine V_iload (pc := 81) C (dk k_Z_when 48 rfl) rfl ?_
            refine V_goto (pc := 83) C (dk k_Z_when 49 rfl) 87 rfl ?_
            refine V_istore_n (pc := 87) C (dk k_Z_when 51 rfl) (by rw [hXN]; decide) ?_
            dsimp only [lst, lstL, lz, kill, Fin.val, Nat.reduceAdd]
            refine V_iinc (pc := 88) C (dk k_Z_when 52 rfl) (by rw [hXN]; decide) rfl ?_
            dsimp only [lst, lstL, lz, kill, Fin.val, Nat.reduceAdd]
            refine V_goto (pc := 91) C (dk k_Z_when 53 rfl) 36 rfl ?_
            refine V_eq (ih (i + 1) (by omega) (by omega)) ?_ rfl rfl
            rw [whn]
            first | rw [if_pos (show sN x t * rt π (sD x + whn π x t i) < sN x t * rt π (sD x + (i + 1 : Nat)) by rw [Int.natCast_add]; exact Int.not_le.mp (by assumption))] | rw [if_neg (show ¬ sN x t * rt π (sD x + whn π x t i) < sN x t * rt π (sD x + (i + 1 : Nat)) by rw [Int.natCast_add]; exact Int.not_lt.mpr (by assumption))]
            rfl
      · skip
        refine V_bipush (pc := 28) (n' := (-2)) C (dk k_Z_when 16 rfl) rfl ?_
        refine V_iret (pc := 30) C E (dk k_Z_when 17 rfl) ?_
        exact ⟨by unfold o_when; rw [if_pos (by omega), if_neg (by omega)], rfl⟩
    · skip
      refine V_iconst (pc := 17) C (dk k_Z_when 9 rfl) rfl ?_
      refine V_iret (pc := 18) C E (dk k_Z_when 10 rfl) ?_
      exact ⟨by unfold o_when; rw [if_neg (by omega)], rfl⟩

def i_Z_pair : List (Nat × (Instr × Nat)) := [(0, (.iload_n 1, 1)), (1, (.iconst 2, 1)), (2, (.sipush 198, 3)), (5, (.invokestatic 93, 3)), (8, (.ifCond .ne 5, 3)), (11, (.iconst (-1), 1)), (12, (.ireturn, 1)), (13, (.bipush (-4), 2)), (15, (.istore_n 2, 1)), (16, (.aload_n 0, 1)), (17, (.getfield 81, 3)), (20, (.iconst 1, 1)), (21, (.isub, 1)), (22, (.istore_n 3, 1)), (23, (.iload_n 3, 1)), (24, (.ifCond .lt 92, 3)), (27, (.aload_n 0, 1)), (28, (.getfield 81, 3)), (31, (.iconst 1, 1)), (32, (.isub, 1)), (33, (.istore 4, 2)), (35, (.iload 4, 2)), (37, (.iload_n 3, 1)), (38, (.if_icmp .le 72, 3)), (41, (.aload_n 0, 1)), (42, (.getfield 31, 3)), (45, (.iload_n 3, 1)), (46, (.iaload, 1)), (47, (.iconst 2, 1)), (48, (.if_icmp .eq 36, 3)), (51, (.aload_n 0, 1)), (52, (.getfield 31, 3)), (55, (.iload 4, 2)), (57, (.iaload, 1)), (58, (.iconst 2, 1)), (59, (.if_icmp .eq 25, 3)), (62, (.aload_n 0, 1)), (63, (.getfield 28, 3)), (66, (.iload_n 3, 1)), (67, (.iaload, 1)), (68, (.aload_n 0, 1)), (69, (.getfield 28, 3)), (72, (.iload 4, 2)), (74, (.iaload, 1)), (75, (.iadd, 1)), (76, (.iload_n 1, 1)), (77, (.if_icmp .ne 7, 3)), (80, (.iconst 1, 1)), (81, (.goto 4, 3)), (84, (.iconst 0, 1)), (85, (.istore 5, 2)), (87, (.iload 5, 2)), (89, (.ifCond .eq 13, 3)), (92, (.bipush 10, 2)), (94, (.iload_n 3, 1)), (95, (.imul, 1)), (96, (.iload 4, 2)), (98, (.iadd, 1)), (99, (.goto 4, 3)), (102, (.iload_n 2, 1)), (103, (.istore_n 2, 1)), (104, (.iinc 4 (-1), 3)), (107, (.goto (-72), 3)), (110, (.iinc 3 (-1), 3)), (113, (.goto (-90), 3)), (116, (.iload_n 2, 1)), (117, (.ireturn, 1))]
theorem k_Z_pair : i_Z_pair.all (fun q => decide (decode b_Z_pair q.1 = .ok q.2)) = true := by decide +kernel

set_option maxHeartbeats 1000000 in
set_option maxRecDepth 20000 in
theorem c_Z_pair (l : Launch) (G : GE) (σ : Wd) (π : PL) (x : ST) (us ks : List ST) (lk : List (Int × (Int × Int))) (tx : List Int) (j : Int) (hC : MR σ π x us ks lk tx) (hV : VK π x us ks j) (hj : j ≤ 100) (v : Int) (hv : inR v) : Ct l G y_Z_pair b_Z_pair 6 (some (.int)) 1 22 [vR 128, vI v] σ (Dt (some (vI (o_pair π x v))) σ) := by
  refine Ct.of cm_Z_pair (Nat.le_of_ble_eq_true rfl) ?_
  intro X hXl hXG hXN hRm C E
  subst hXl; subst hXG
  have ⟨hv_1, hv_2⟩ := hv
  show V X 0 [some (vR 128), some (vI v), none, none, none, none] [] σ
  refine V_R (fun hR => ?_)
  obtain ⟨hπ, hx, hU, hK, hl, hT⟩ := id hC
  obtain ⟨ok, xk, usk, ksk, ks2⟩ := id hV
  have hπ0 := hπ
  obtain ⟨e0, e1, e2, e3, eT, eX⟩ := hπ
  have ⟨k1, k2, k3, k4, k5, k6, kT, kX⟩ := ok
  have hx0 := hx
  obtain ⟨f0, f1, fQ, fT⟩ := hx
  have ⟨x1, x2, x3, x4, xQ, xT⟩ := xk
  refine V_iload_n (pc := 0) C (dk k_Z_pair 0 rfl) rfl ?_
  refine V_iconst (pc := 1) C (dk k_Z_pair 1 rfl) rfl ?_
  refine V_sipush (pc := 2) (n' := 198) C (dk k_Z_pair 2 rfl) rfl ?_
  refine V_callS (pc := 5) C (dk k_Z_pair 3 rfl) lk_Z_93 cm_Z_in sm_Z_in (c_Z_in _ _ _ v 2 198 hv ⟨by decide, by decide⟩ ⟨by decide, by decide⟩) rfl rfl (Nat.le_of_ble_eq_true rfl) (Rm.mono hRm (by decide) (by decide)) ?_
  refine V_ifneB (pc := 8) C (dk k_Z_pair 4 rfl) 13 rfl (fun h1 => ?_) (fun h1 => ?_)
  · skip
    refine V_bipush (pc := 13) (n' := (-4)) C (dk k_Z_pair 7 rfl) rfl ?_
    refine V_istore_n (pc := 15) C (dk k_Z_pair 8 rfl) (by rw [hXN]; decide) ?_
    dsimp only [lst, lstL, lz, kill, Fin.val, Nat.reduceAdd]
    refine V_aload_n (pc := 16) C (dk k_Z_pair 9 rfl) rfl ?_
    refine V_geti (pc := 17) (ji := 1) C (dk k_Z_pair 10 rfl) fl_Z_81 kq_128 (by decide) rfl rfl ?_
    refine V_iconst (pc := 20) C (dk k_Z_pair 11 rfl) rfl ?_
    refine V_isub (pc := 21) C (dk k_Z_pair 12 rfl) ?_
    rw [e1]
    refine V_istore_n (pc := 22) C (dk k_Z_pair 13 rfl) (by rw [hXN]; decide) ?_
    dsimp only [lst, lstL, lz, kill, Fin.val, Nat.reduceAdd]
    refine V_eq (V_loop (fun a0 : Nat => a0 ≤ pN π) (fun a0 => [some (vR 128), some (vI v), some (vI (prO x v (pN π) (pN π - a0) a0)), some (vI ((a0 : Int) - 1)), none, none]) (fun _ => σ) (fun a0 => a0) (fun a0 ha iha => ?_) (pN π) (Nat.le_refl _)) (by rw [Nat.sub_self]; rfl) rfl rfl
    refine V_iload_n (pc := 23) C (dk k_Z_pair 14 rfl) rfl ?_
    refine V_iflt (pc := 24) C (dk k_Z_pair 15 rfl) 116 rfl (by first | exact hR _ _ | with_reducible assumption | exact ⟨by omega, by omega⟩) (fun h2 => ?_) (fun h2 => ?_)
    · skip
      refine V_iload_n (pc := 116) C (dk k_Z_pair 65 rfl) rfl ?_
      refine V_iret (pc := 117) C E (dk k_Z_pair 66 rfl) ?_
      obtain rfl : a0 = 0 := by omega
      exact ⟨by unfold o_pair; rw [if_pos (by omega), Nat.sub_zero], rfl⟩
    · skip
      obtain ⟨a, rfl⟩ : ∃ a, a0 = a + 1 := ⟨a0 - 1, by omega⟩
      rw [show ((a + 1 : Nat) : Int) - 1 = (a : Int) by omega]
      refine V_aload_n (pc := 27) C (dk k_Z_pair 16 rfl) rfl ?_
      refine V_geti (pc := 28) (ji := 1) C (dk k_Z_pair 17 rfl) fl_Z_81 kq_128 (by decide) rfl rfl ?_
      refine V_iconst (pc := 31) C (dk k_Z_pair 18 rfl) rfl ?_
      refine V_isub (pc := 32) C (dk k_Z_pair 19 rfl) ?_
      rw [e1]
      refine V_istore (pc := 33) C (dk k_Z_pair 20 rfl) (by rw [hXN]; decide) ?_
      dsimp only [lst, lstL, lz, kill, Fin.val, Nat.reduceAdd]
      refine V_eq (V_loop (fun b0 : Nat => a + 1 ≤ b0 ∧ b0 ≤ pN π) (fun b0 => [some (vR 128), some (vI v), some (vI (prZ x v (pN π) a b0)), some (vI (a : Int)), some (vI ((b0 : Int) - 1)), none]) (fun _ => σ) (fun b0 => b0) (fun b0 hb ihb => ?_) (pN π) ⟨by omega, Nat.le_refl _⟩) (by rw [prZ_0]) rfl rfl
      refine V_iload (pc := 35) C (dk k_Z_pair 21 rfl) rfl ?_
      refine V_iload_n (pc := 37) C (dk k_Z_pair 22 rfl) rfl ?_
      refine V_icmple (pc := 38) C (dk k_Z_pair 23 rfl) 110 rfl (by first | exact hR _ _ | with_reducible assumption | exact ⟨by omega, by omega⟩) (by first | exact hR _ _ | with_reducible assumption | exact ⟨by omega, by omega⟩) (fun h3 => ?_) (fun h3 => ?_)
      · skip
        refine V_iinc (pc := 110) C (dk k_Z_pair 63 rfl) (by rw [hXN]; decide) rfl ?_
        dsimp only [lst, lstL, lz, kill, Fin.val, Nat.reduceAdd]
        refine V_goto (pc := 113) C (dk k_Z_pair 64 rfl) 23 rfl ?_
        refine V_fg 4 ?_
        dsimp only [fg]
        obtain rfl : b0 = a + 1 := by omega
        rw [prZ_e x v (show a < pN π by omega)]
        exact iha a (by omega) (by omega)
      · skip
        obtain ⟨b, rfl⟩ : ∃ b, b0 = b + 1 := ⟨b0 - 1, by omega⟩
        rw [show ((b + 1 : Nat) : Int) - 1 = (b : Int) by omega]
        obtain ⟨aN, aP⟩ := fT a (by omega) (by omega)
        obtain ⟨bN, bP⟩ := fT b (by omega) (by omega)
        obtain ⟨a0, a1, -, -, -⟩ := xT a (by omega) (by omega)
        obtain ⟨b0, b1, -, -, -⟩ := xT b (by omega) (by omega)
        refine V_aload_n (pc := 41) C (dk k_Z_pair 24 rfl) rfl ?_
        refine V_getr (pc := 42) (o2 := 136) C (dk k_Z_pair 25 rfl) fl_Z_31 kq_128 (by decide) rfl (by decide) rfl ?_
        refine V_iload_n (pc := 45) C (dk k_Z_pair 26 rfl) rfl ?_
        refine V_iald (pc := 46) C (dk k_Z_pair 27 rfl) kq_136 (by decide) (by omega) (by omega) ?_
        refine V_iconst (pc := 47) C (dk k_Z_pair 28 rfl) rfl ?_
        refine V_icmpeq (pc := 48) C (dk k_Z_pair 29 rfl) 84 rfl (by first | exact hR _ _ | with_reducible assumption | exact ⟨by omega, by omega⟩) (by first | exact hR _ _ | with_reducible assumption | exact ⟨by omega, by omega⟩) (fun h4 => ?_) (fun h4 => ?_)
        · skip
          refine V_iconst (pc := 84) C (dk k_Z_pair 49 rfl) rfl ?_
          refine V_istore (pc := 85) C (dk k_Z_pair 50 rfl) (by rw [hXN]; decide) ?_
          dsimp only [lst, lstL, lz, kill, Fin.val, Nat.reduceAdd]
          refine V_iload (pc := 87) C (dk k_Z_pair 51 rfl) rfl ?_
          refine V_ifeq (pc := 89) C (dk k_Z_pair 52 rfl) 102 rfl (by first | exact hR _ _ | with_reducible assumption | exact ⟨by omega, by omega⟩) (fun h5 => ?_) (fun h5 => ?_)
          · skip
            refine V_iload_n (pc := 102) C (dk k_Z_pair 59 rfl) rfl ?_
            refine V_istore_n (pc := 103) C (dk k_Z_pair 60 rfl) (by rw [hXN]; decide) ?_
            dsimp only [lst, lstL, lz, kill, Fin.val, Nat.reduceAdd]
            refine V_iinc (pc := 104) C (dk k_Z_pair 61 rfl) (by rw [hXN]; decide) rfl ?_
            dsimp only [lst, lstL, lz, kill, Fin.val, Nat.reduceAdd]
            refine V_goto (pc := 107) C (dk k_Z_pair 62 rfl) 35 rfl ?_
            refine V_fg 5 ?_
            dsimp only [fg]
            first | (exfalso; omega) | (refine V_eq (ihb b ⟨by omega, by omega⟩ (by omega)) ?_ rfl rfl; rw [prZ_y (show b < pN π by omega) ⟨⟨by omega, by omega⟩, by omega⟩]; rfl) | (refine V_eq (ihb b ⟨by omega, by omega⟩ (by omega)) ?_ rfl rfl; rw [prZ_n (show b < pN π by omega) (fun z => by obtain ⟨⟨z1, z2⟩, z3⟩ := z; omega)]; rfl)
          · skip
            refine V_bipush (pc := 92) (n' := 10) C (dk k_Z_pair 53 rfl) rfl ?_
            refine V_iload_n (pc := 94) C (dk k_Z_pair 54 rfl) rfl ?_
            refine V_imul (pc := 95) C (dk k_Z_pair 55 rfl) ?_
            refine V_iload (pc := 96) C (dk k_Z_pair 56 rfl) rfl ?_
            refine V_iadd (pc := 98) C (dk k_Z_pair 57 rfl) ?_
            refine V_goto (pc := 99) C (dk k_Z_pair 58 rfl) 103 rfl ?_
            refine V_istore_n (pc := 103) C (dk k_Z_pair 60 rfl) (by rw [hXN]; decide) ?_
            dsimp only [lst, lstL, lz, kill, Fin.val, Nat.reduceAdd]
            refine V_iinc (pc := 104) C (dk k_Z_pair 61 rfl) (by rw [hXN]; decide) rfl ?_
            dsimp only [lst, lstL, lz, kill, Fin.val, Nat.reduceAdd]
            refine V_goto (pc := 107) C (dk k_Z_pair 62 rfl) 35 rfl ?_
            refine V_fg 5 ?_
            dsimp only [fg]
            first | (exfalso; omega) | (refine V_eq (ihb b ⟨by omega, by omega⟩ (by omega)) ?_ rfl rfl; rw [prZ_y (show b < pN π by omega) ⟨⟨by omega, by omega⟩, by omega⟩]; rfl) | (refine V_eq (ihb b ⟨by omega, by omega⟩ (by omega)) ?_ rfl rfl; rw [prZ_n (show b < pN π by omega) (fun z => by obtain ⟨⟨z1, z2⟩, z3⟩ := z; omega)]; rfl)
        · skip
          refine V_aload_n (pc := 51) C (dk k_Z_pair 30 rfl) rfl ?_
          refine V_getr (pc := 52) (o2 := 136) C (dk k_Z_pair 31 rfl) fl_Z_31 kq_128 (by decide) rfl (by decide) rfl ?_
          refine V_iload (pc := 55) C (dk k_Z_pair 32 rfl) rfl ?_
          refine V_iald (pc := 57) C (dk k_Z_pair 33 rfl) kq_136 (by decide) (by omega) (by omega) ?_
          refine V_iconst (pc := 58) C (dk k_Z_pair 34 rfl) rfl ?_
          refine V_icmpeq (pc := 59) C (dk k_Z_pair 35 rfl) 84 rfl (by first | exact hR _ _ | with_reducible assumption | exact ⟨by omega, by omega⟩) (by first | exact hR _ _ | with_reducible assumption | exact ⟨by omega, by omega⟩) (fun h6 => ?_) (fun h6 => ?_)
          · skip
            refine V_iconst (pc := 84) C (dk k_Z_pair 49 rfl) rfl ?_
            refine V_istore (pc := 85) C (dk k_Z_pair 50 rfl) (by rw [hXN]; decide) ?_
            dsimp only [lst, lstL, lz, kill, Fin.val, Nat.reduceAdd]
            refine V_iload (pc := 87) C (dk k_Z_pair 51 rfl) rfl ?_
            refine V_ifeq (pc := 89) C (dk k_Z_pair 52 rfl) 102 rfl (by first | exact hR _ _ | with_reducible assumption | exact ⟨by omega, by omega⟩) (fun h7 => ?_) (fun h7 => ?_)
            · skip
              refine V_iload_n (pc := 102) C (dk k_Z_pair 59 rfl) rfl ?_
              refine V_istore_n (pc := 103) C (dk k_Z_pair 60 rfl) (by rw [hXN]; decide) ?_
              dsimp only [lst, lstL, lz, kill, Fin.val, Nat.reduceAdd]
              refine V_iinc (pc := 104) C (dk k_Z_pair 61 rfl) (by rw [hXN]; decide) rfl ?_
              dsimp only [lst, lstL, lz, kill, Fin.val, Nat.reduceAdd]
              refine V_goto (pc := 107) C (dk k_Z_pair 62 rfl) 35 rfl ?_
              refine V_fg 5 ?_
              dsimp only [fg]
              first | (exfalso; omega) | (refine V_eq (ihb b ⟨by omega, by omega⟩ (by omega)) ?_ rfl rfl; rw [prZ_y (show b < pN π by omega) ⟨⟨by omega, by omega⟩, by omega⟩]; rfl) | (refine V_eq (ihb b ⟨by omega, by omega⟩ (by omega)) ?_ rfl rfl; rw [prZ_n (show b < pN π by omega) (fun z => by obtain ⟨⟨z1, z2⟩, z3⟩ := z; omega)]; rfl)
            · skip
              refine V_bipush (pc := 92) (n' := 10) C (dk k_Z_pair 53 rfl) rfl ?_
              refine V_iload_n (pc := 94) C (dk k_Z_pair 54 rfl) rfl ?_
              refine V_imul (pc := 95) C (dk k_Z_pair 55 rfl) ?_
              refine V_iload (pc := 96) C (dk k_Z_pair 56 rfl) rfl ?_
              refine V_iadd (pc := 98) C (dk k_Z_pair 57 rfl) ?_
              refine V_goto (pc := 99) C (dk k_Z_pair 58 rfl) 103 rfl ?_
              refine V_istore_n (pc := 103) C (dk k_Z_pair 60 rfl) (by rw [hXN]; decide) ?_
              dsimp only [lst, lstL, lz, kill, Fin.val, Nat.reduceAdd]
              refine V_iinc (pc := 104) C (dk k_Z_pair 61 rfl) (by rw [hXN]; decide) rfl ?_
              dsimp only [lst, lstL, lz, kill, Fin.val, Nat.reduceAdd]
              refine V_goto (pc := 107) C (dk k_Z_pair 62 rfl) 35 rfl ?_
              refine V_fg 5 ?_
              dsimp only [fg]
              first | (exfalso; omega) | (refine V_eq (ihb b ⟨by omega, by omega⟩ (by omega)) ?_ rfl rfl; rw [prZ_y (show b < pN π by omega) ⟨⟨by omega, by omega⟩, by omega⟩]; rfl) | (refine V_eq (ihb b ⟨by omega, by omega⟩ (by omega)) ?_ rfl rfl; rw [prZ_n (show b < pN π by omega) (fun z => by obtain ⟨⟨z1, z2⟩, z3⟩ := z; omega)]; rfl)
          · skip
            refine V_aload_n (pc := 62) C (dk k_Z_pair 36 rfl) rfl ?_
            refine V_getr (pc := 63) (o2 := 135) C (dk k_Z_pair 37 rfl) fl_Z_28 kq_128 (by decide) rfl (by decide) rfl ?_
            refine V_iload_n (pc := 66) C (dk k_Z_pair 38 rfl) rfl ?_
            refine V_iald (pc := 67) C (dk k_Z_pair 39 rfl) kq_135 (by decide) (by omega) (by omega) ?_
            refine V_aload_n (pc := 68) C (dk k_Z_pair 40 rfl) rfl ?_
            refine V_getr (pc := 69) (o2 := 135) C (dk k_Z_pair 41 rfl) fl_Z_28 kq_128 (by decide) rfl (by decide) rfl ?_
            refine V_iload (pc := 72) C (dk k_Z_pair 42 rfl) rfl ?_
            refine V_iald (pc := 74) C (dk k_Z_pair 43 rfl) kq_135 (by decide) (by omega) (by omega) ?_
            refine V_iadd (pc := 75) C (dk k_Z_pair 44 rfl) ?_
            refine V_iload_n (pc := 76) C (dk k_Z_pair 45 rfl) rfl ?_
            refine V_icmpne (pc := 77) C (dk k_Z_pair 46 rfl) 84 rfl (by first | exact hR _ _ | with_reducible assumption | exact ⟨by omega, by omega⟩) (by first | exact hR _ _ | with_reducible assumption | exact ⟨by omega, by omega⟩) (fun h8 => ?_) (fun h8 => ?_)
            · skip
              refine V_iconst (pc := 84) C (dk k_Z_pair 49 rfl) rfl ?_
              refine V_istore (pc := 85) C (dk k_Z_pair 50 rfl) (by rw [hXN]; decide) ?_
              dsimp only [lst, lstL, lz, kill, Fin.val, Nat.reduceAdd]
              refine V_iload (pc := 87) C (dk k_Z_pair 51 rfl) rfl ?_
              refine V_ifeq (pc := 89) C (dk k_Z_pair 52 rfl) 102 rfl (by first | exact hR _ _ | with_reducible assumption | exact ⟨by omega, by omega⟩) (fun h9 => ?_) (fun h9 => ?_)
              · skip
                refine V_iload_n (pc := 102) C (dk k_Z_pair 59 rfl) rfl ?_
                refine V_istore_n (pc := 103) C (dk k_Z_pair 60 rfl) (by rw [hXN]; decide) ?_
                dsimp only [lst, lstL, lz, kill, Fin.val, Nat.reduceAdd]
                refine V_iinc (pc := 104) C (dk k_Z_pair 61 rfl) (by rw [hXN]; decide) rfl ?_
                dsimp only [lst, lstL, lz, kill, Fin.val, Nat.reduceAdd]
                refine V_goto (pc := 107) C (dk k_Z_pair 62 rfl) 35 rfl ?_
                refine V_fg 5 ?_
                dsimp only [fg]
                first | (exfalso; omega) | (refine V_eq (ihb b ⟨by omega, by omega⟩ (by omega)) ?_ rfl rfl; rw [prZ_y (show b < pN π by omega) ⟨⟨by omega, by omega⟩, by omega⟩]; rfl) | (refine V_eq (ihb b ⟨by omega, by omega⟩ (by omega)) ?_ rfl rfl; rw [prZ_n (show b < pN π by omega) (fun z => by obtain ⟨⟨z1, z2⟩, z3⟩ := z; omega)]; rfl)
              · skip
                refine V_bipush (pc := 92) (n' := 10) C (dk k_Z_pair 53 rfl) rfl ?_
                refine V_iload_n (pc := 94) C (dk k_Z_pair 54 rfl) rfl ?_
                refine V_imul (pc := 95) C (dk k_Z_pair 55 rfl) ?_
                refine V_iload (pc := 96) C (dk k_Z_pair 56 rfl) rfl ?_
                refine V_iadd (pc := 98) C (dk k_Z_pair 57 rfl) ?_
                refine V_goto (pc := 99) C (dk k_Z_pair 58 rfl) 103 rfl ?_
                refine V_istore_n (pc := 103) C (dk k_Z_pair 60 rfl) (by rw [hXN]; decide) ?_
                dsimp only [lst, lstL, lz, kill, Fin.val, Nat.reduceAdd]
                refine V_iinc (pc := 104) C (dk k_Z_pair 61 rfl) (by rw [hXN]; decide) rfl ?_
                dsimp only [lst, lstL, lz, kill, Fin.val, Nat.reduceAdd]
                refine V_goto (pc := 107) C (dk k_Z_pair 62 rfl) 35 rfl ?_
                refine V_fg 5 ?_
                dsimp only [fg]
                first | (exfalso; omega) | (refine V_eq (ihb b ⟨by omega, by omega⟩ (by omega)) ?_ rfl rfl; rw [prZ_y (show b < pN π by omega) ⟨⟨by omega, by omega⟩, by omega⟩]; rfl) | (refine V_eq (ihb b ⟨by omega, by omega⟩ (by omega)) ?_ rfl rfl; rw [prZ_n (show b < pN π by omega) (fun z => by obtain ⟨⟨z1, z2⟩, z3⟩ := z; omega)]; rfl)
            · skip
              refine V_iconst (pc := 80) C (dk k_Z_pair 47 rfl) rfl ?_
              refine V_goto (pc := 81) C (dk k_Z_pair 48 rfl) 85 rfl ?_
              refine V_istore (pc := 85) C (dk k_Z_pair 50 rfl) (by rw [hXN]; decide) ?_
              dsimp only [lst, lstL, lz, kill, Fin.val, Nat.reduceAdd]
              refine V_iload (pc := 87) C (dk k_Z_pair 51 rfl) rfl ?_
              refine V_ifeq (pc := 89) C (dk k_Z_pair 52 rfl) 102 rfl (by first | exact hR _ _ | with_reducible assumption | exact ⟨by omega, by omega⟩) (fun h10 => ?_) (fun h10 => ?_)
              · skip
                refine V_iload_n (pc := 102) C (dk k_Z_pair 59 rfl) rfl ?_
                refine V_istore_n (pc := 103) C (dk k_Z_pair 60 rfl) (by rw [hXN]; decide) ?_
                dsimp only [lst, lstL, lz, kill, Fin.val, Nat.reduceAdd]
                refine V_iinc (pc := 104) C (dk k_Z_pair 61 rfl) (by rw [hXN]; decide) rfl ?_
                dsimp only [lst, lstL, lz, kill, Fin.val, Nat.reduceAdd]
                refine V_goto (pc := 107) C (dk k_Z_pair 62 rfl) 35 rfl ?_
                refine V_fg 5 ?_
                dsimp only [fg]
                first | (exfalso; omega) | (refine V_eq (ihb b ⟨by omega, by omega⟩ (by omega)) ?_ rfl rfl; rw [prZ_y (show b < pN π by omega) ⟨⟨by omega, by omega⟩, by omega⟩]; rfl) | (refine V_eq (ihb b ⟨by omega, by omega⟩ (by omega)) ?_ rfl rfl; rw [prZ_n (show b < pN π by omega) (fun z => by obtain ⟨⟨z1, z2⟩, z3⟩ := z; omega)]; rfl)
              · skip
                refine V_bipush (pc := 92) (n' := 10) C (dk k_Z_pair 53 rfl) rfl ?_
                refine V_iload_n (pc := 94) C (dk k_Z_pair 54 rfl) rfl ?_
                refine V_imul (pc := 95) C (dk k_Z_pair 55 rfl) ?_
                refine V_iload (pc := 96) C (dk k_Z_pair 56 rfl) rfl ?_
                refine V_iadd (pc := 98) C (dk k_Z_pair 57 rfl) ?_
                refine V_goto (pc := 99) C (dk k_Z_pair 58 rfl) 103 rfl ?_
                refine V_istore_n (pc := 103) C (dk k_Z_pair 60 rfl) (by rw [hXN]; decide) ?_
                dsimp only [lst, lstL, lz, kill, Fin.val, Nat.reduceAdd]
                refine V_iinc (pc := 104) C (dk k_Z_pair 61 rfl) (by rw [hXN]; decide) rfl ?_
                dsimp only [lst, lstL, lz, kill, Fin.val, Nat.reduceAdd]
                refine V_goto (pc := 107) C (dk k_Z_pair 62 rfl) 35 rfl ?_
                refine V_fg 5 ?_
                dsimp only [fg]
                first | (exfalso; omega) | (refine V_eq (ihb b ⟨by omega, by omega⟩ (by omega)) ?_ rfl rfl; rw [prZ_y (show b < pN π by omega) ⟨⟨by omega, by omega⟩, by omega⟩]; rfl) | (refine V_eq (ihb b ⟨by omega, by omega⟩ (by omega)) ?_ rfl rfl; rw [prZ_n (show b < pN π by omega) (fun z => by obtain ⟨⟨z1, z2⟩, z3⟩ := z; omega)]; rfl)
  · skip
    refine V_iconst (pc := 11) C (dk k_Z_pair 5 rfl) rfl ?_
    refine V_iret (pc := 12) C E (dk k_Z_pair 6 rfl) ?_
    exact ⟨by unfold o_pair; rw [if_neg (by omega)], rfl⟩

def i_Z_nearBy : List (Nat × (Instr × Nat)) := [(0, (.aload_n 0, 1)), (1, (.getfield 28, 3)), (4, (.iload_n 1, 1)), (5, (.iaload, 1)), (6, (.istore 4, 2)), (8, (.iconst 0, 1)), (9, (.istore 5, 2)), (11, (.iload 5, 2)), (13, (.iload_n 3, 1)), (14, (.if_icmp .ge 33, 3)), (17, (.iload 4, 2)), (19, (.ifCond .ne 7, 3)), (22, (.iconst 0, 1)), (23, (.goto 16, 3)), (26, (.iload_n 2, 1)), (27, (.iload 4, 2)), (29, (.aload_n 0, 1)), (30, (.getfield 150, 3)), (33, (.iload 5, 2)), (35, (.iadd, 1)), (36, (.invokestatic 166, 3)), (39, (.istore 4, 2)), (41, (.iinc 5 1, 3)), (44, (.goto (-33), 3)), (47, (.iload 4, 2)), (49, (.ireturn, 1))]
theorem k_Z_nearBy : i_Z_nearBy.all (fun q => decide (decode b_Z_nearBy q.1 = .ok q.2)) = true := by decide +kernel

set_option maxHeartbeats 1000000 in
set_option maxRecDepth 20000 in
theorem c_Z_nearBy (l : Launch) (G : GE) (σ : Wd) (π : PL) (x : ST) (j t k n : Int) (hπ : PlM σ π) (ok : PLok π) (hx : StM σ π x) (xk : STok π x j) (hj : j ≤ 200) (ht0 : 0 ≤ t) (ht1 : t < pN π) (hk : inR k) (hn0 : 0 ≤ n) (hn1 : n ≤ 60) : Ct l G y_Z_nearBy b_Z_nearBy 6 (some (.int)) 1 23 [vR 128, vI t, vI k, vI n] σ (Dt (some (vI (cel k (sN x t) (sD x) n.toNat))) σ) := by
  refine Ct.of cm_Z_nearBy (Nat.le_of_ble_eq_true rfl) ?_
  intro X hXl hXG hXN hRm C E
  subst hXl; subst hXG
  have ⟨hk_1, hk_2⟩ := hk
  show V X 0 [some (vR 128), some (vI t), some (vI k), some (vI n), none, none] [] σ
  refine V_R (fun hR => ?_)
  have hπ0 := hπ
  obtain ⟨e0, e1, e2, e3, eT, eX⟩ := hπ
  have ⟨k1, k2, k3, k4, k5, k6, kT, kX⟩ := ok
  have hx0 := hx
  obtain ⟨f0, f1, fQ, fT⟩ := hx
  have ⟨x1, x2, x3, x4, xQ, xT⟩ := xk
  obtain ⟨fN, fP⟩ := fT t ht0 ht1
  obtain ⟨xN0, xN1, xP0, xP1, xPN⟩ := xT t ht0 ht1
  refine V_aload_n (pc := 0) C (dk k_Z_nearBy 0 rfl) rfl ?_
  refine V_getr (pc := 1) (o2 := 135) C (dk k_Z_nearBy 1 rfl) fl_Z_28 kq_128 (by decide) rfl (by decide) rfl ?_
  refine V_iload_n (pc := 4) C (dk k_Z_nearBy 2 rfl) rfl ?_
  refine V_iald (pc := 5) C (dk k_Z_nearBy 3 rfl) kq_135 (by decide) (by omega) (by omega) ?_
  rw [fN]
  refine V_istore (pc := 6) C (dk k_Z_nearBy 4 rfl) (by rw [hXN]; decide) ?_
  dsimp only [lst, lstL, lz, kill, Fin.val, Nat.reduceAdd]
  refine V_iconst (pc := 8) C (dk k_Z_nearBy 5 rfl) rfl ?_
  refine V_istore (pc := 9) C (dk k_Z_nearBy 6 rfl) (by rw [hXN]; decide) ?_
  dsimp only [lst, lstL, lz, kill, Fin.val, Nat.reduceAdd]
  refine V_eq (V_loop (fun i : Nat => (i : Int) ≤ n) (fun i => [some (vR 128), some (vI t), some (vI k), some (vI n), some (vI (cel k (sN x t) (sD x) i)), some (vI (i : Int))]) (fun _ => σ) (fun i => n.toNat - i) (fun i hi ih => ?_) 0 (by omega)) rfl rfl rfl
  have ⟨cb0, cb1⟩ := cel_b (k := k) (d := sD x) xN0 xN1 i
  refine V_iload (pc := 11) C (dk k_Z_nearBy 7 rfl) rfl ?_
  refine V_iload_n (pc := 13) C (dk k_Z_nearBy 8 rfl) rfl ?_
  refine V_icmpge (pc := 14) C (dk k_Z_nearBy 9 rfl) 47 rfl (by first | exact hR _ _ | with_reducible assumption | exact ⟨by omega, by omega⟩) (by first | exact hR _ _ | with_reducible assumption | exact ⟨by omega, by omega⟩) (fun h1 => ?_) (fun h1 => ?_)
  · skip
    refine V_iload (pc := 47) C (dk k_Z_nearBy 24 rfl) rfl ?_
    refine V_iret (pc := 49) C E (dk k_Z_nearBy 25 rfl) ?_
    obtain rfl : n = i := by omega
    exact ⟨by rw [Int.toNat_natCast], rfl⟩
  · skip
    refine V_iload (pc := 17) C (dk k_Z_nearBy 10 rfl) rfl ?_
    refine V_ifne (pc := 19) C (dk k_Z_nearBy 11 rfl) 26 rfl (by first | exact hR _ _ | with_reducible assumption | exact ⟨by omega, by omega⟩) (fun h2 => ?_) (fun h2 => ?_)
    · skip
      refine V_iload_n (pc := 26) C (dk k_Z_nearBy 14 rfl) rfl ?_
      refine V_iload (pc := 27) C (dk k_Z_nearBy 15 rfl) rfl ?_
      refine V_aload_n (pc := 29) C (dk k_Z_nearBy 16 rfl) rfl ?_
      refine V_geti (pc := 30) (ji := 8) C (dk k_Z_nearBy 17 rfl) fl_Z_150 kq_128 (by decide) rfl rfl ?_
      refine V_iload (pc := 33) C (dk k_Z_nearBy 18 rfl) rfl ?_
      refine V_iadd (pc := 35) C (dk k_Z_nearBy 19 rfl) ?_
      rw [f0]
      refine V_callS (pc := 36) C (dk k_Z_nearBy 20 rfl) lk_Z_166 cm_Z_nearThen sm_Z_nearThen (c_Z_nearThen _ _ _ k (cel k (sN x t) (sD x) i) (sD x + i) hk (by omega) cb1 ⟨by omega, by omega⟩ (by omega)) rfl rfl (Nat.le_of_ble_eq_true rfl) (Rm.mono hRm (by decide) (by decide)) ?_
      refine V_istore (pc := 39) C (dk k_Z_nearBy 21 rfl) (by rw [hXN]; decide) ?_
      dsimp only [lst, lstL, lz, kill, Fin.val, Nat.reduceAdd]
      refine V_iinc (pc := 41) C (dk k_Z_nearBy 22 rfl) (by rw [hXN]; decide) rfl ?_
      dsimp only [lst, lstL, lz, kill, Fin.val, Nat.reduceAdd]
      refine V_goto (pc := 44) C (dk k_Z_nearBy 23 rfl) 11 rfl ?_
      refine V_eq (ih (i + 1) (by omega) (by omega)) ?_ rfl rfl
      first | rfl | (rw [show cel k (sN x t) (sD x) (i + 1) = nx k (cel k (sN x t) (sD x) i) (sD x + i) from rfl, show cel k (sN x t) (sD x) i = 0 by omega, nx_0]; rfl)
    · skip
      refine V_iconst (pc := 22) C (dk k_Z_nearBy 12 rfl) rfl ?_
      refine V_goto (pc := 23) C (dk k_Z_nearBy 13 rfl) 39 rfl ?_
      refine V_istore (pc := 39) C (dk k_Z_nearBy 21 rfl) (by rw [hXN]; decide) ?_
      dsimp only [lst, lstL, lz, kill, Fin.val, Nat.reduceAdd]
      refine V_iinc (pc := 41) C (dk k_Z_nearBy 22 rfl) (by rw [hXN]; decide) rfl ?_
      dsimp only [lst, lstL, lz, kill, Fin.val, Nat.reduceAdd]
      refine V_goto (pc := 44) C (dk k_Z_nearBy 23 rfl) 11 rfl ?_
      refine V_eq (ih (i + 1) (by omega) (by omega)) ?_ rfl rfl
      first | rfl | (rw [show cel k (sN x t) (sD x) (i + 1) = nx k (cel k (sN x t) (sD x) i) (sD x + i) from rfl, show cel k (sN x t) (sD x) i = 0 by omega, nx_0]; rfl)

def i_Z_kinds : List (Nat × (Instr × Nat)) := [(0, (.aload_n 0, 1)), (1, (.iload_n 1, 1)), (2, (.invokevirtual 180, 3)), (5, (.ifCond .ne 5, 3)), (8, (.iconst (-1), 1)), (9, (.ireturn, 1)), (10, (.iconst 0, 1)), (11, (.istore_n 2, 1)), (12, (.iconst 0, 1)), (13, (.istore_n 3, 1)), (14, (.iload_n 3, 1)), (15, (.iconst 3, 1)), (16, (.if_icmp .gt 91, 3)), (19, (.iconst 1, 1)), (20, (.istore 4, 2)), (22, (.iconst 0, 1)), (23, (.istore 5, 2)), (25, (.iload 5, 2)), (27, (.aload_n 0, 1)), (28, (.getfield 153, 3)), (31, (.if_icmp .ge 55, 3)), (34, (.iload 4, 2)), (36, (.ifCond .eq 41, 3)), (39, (.aload_n 0, 1)), (40, (.getfield 34, 3)), (43, (.iload 5, 2)), (45, (.iaload, 1)), (46, (.iload_n 1, 1)), (47, (.if_icmp .ne 26, 3)), (50, (.aload_n 0, 1)), (51, (.iload_n 1, 1)), (52, (.iload_n 3, 1)), (53, (.aload_n 0, 1)), (54, (.getfield 37, 3)), (57, (.iload 5, 2)), (59, (.iaload, 1)), (60, (.invokevirtual 246, 3)), (63, (.aload_n 0, 1)), (64, (.getfield 40, 3)), (67, (.iload 5, 2)), (69, (.iaload, 1)), (70, (.if_icmp .ne 7, 3)), (73, (.iconst 1, 1)), (74, (.goto 4, 3)), (77, (.iconst 0, 1)), (78, (.istore 4, 2)), (80, (.iinc 5 1, 3)), (83, (.goto (-58), 3)), (86, (.iload_n 2, 1)), (87, (.iload 4, 2)), (89, (.ifCond .eq 9, 3)), (92, (.iconst 1, 1)), (93, (.iload_n 3, 1)), (94, (.ishl, 1)), (95, (.goto 4, 3)), (98, (.iconst 0, 1)), (99, (.ior, 1)), (100, (.istore_n 2, 1)), (101, (.iinc 3 1, 3)), (104, (.goto (-90), 3)), (107, (.iload_n 2, 1)), (108, (.ireturn, 1))]
theorem k_Z_kinds : i_Z_kinds.all (fun q => decide (decode b_Z_kinds q.1 = .ok q.2)) = true := by decide +kernel

set_option maxHeartbeats 1000000 in
set_option maxRecDepth 20000 in
theorem c_Z_kinds (l : Launch) (G : GE) (σ : Wd) (π : PL) (x : ST) (us ks : List ST) (lk : List (Int × (Int × Int))) (tx : List Int) (j : Int) (hC : MR σ π x us ks lk tx) (hV : VK π x us ks j) (hj : j ≤ 100) (t : Int) (ht : inR t) : Ct l G y_Z_kinds b_Z_kinds 6 (some (.int)) 2 48 [vR 128, vI t] σ (Dt (some (vI (o_kinds π x lk t))) σ) := by
  refine Ct.of cm_Z_kinds (Nat.le_of_ble_eq_true rfl) ?_
  intro X hXl hXG hXN hRm C E
  subst hXl; subst hXG
  have ⟨ht_1, ht_2⟩ := ht
  show V X 0 [some (vR 128), some (vI t), none, none, none, none] [] σ
  refine V_R (fun hR => ?_)
  obtain ⟨hπ, hx, hU, hK, hl, hT⟩ := id hC
  obtain ⟨ok, xk, usk, ksk, ks2⟩ := id hV
  have hπ0 := hπ
  obtain ⟨e0, e1, e2, e3, eT, eX⟩ := hπ
  have ⟨k1, k2, k3, k4, k5, k6, kT, kX⟩ := ok
  have hx0 := hx
  obtain ⟨f0, f1, fQ, fT⟩ := hx
  have ⟨x1, x2, x3, x4, xQ, xT⟩ := xk
  obtain ⟨l1, l2, l3⟩ := id hl
  refine V_aload_n (pc := 0) C (dk k_Z_kinds 0 rfl) rfl ?_
  refine V_iload_n (pc := 1) C (dk k_Z_kinds 1 rfl) rfl ?_
  refine V_callV (pc := 2) C (dk k_Z_kinds 2 rfl) lk_Z_180 cm_Z_isThing vm_Z_isThing (c_Z_isThing _ _ _ π t hπ0 ok ht) kq_128 rfl rfl rfl (Nat.le_of_ble_eq_true rfl) (Rm.mono hRm (by decide) (by decide)) ?_
  refine V_ifneB (pc := 5) C (dk k_Z_kinds 3 rfl) 10 rfl (fun h1 => ?_) (fun h1 => ?_)
  · skip
    refine V_iconst (pc := 10) C (dk k_Z_kinds 6 rfl) rfl ?_
    refine V_istore_n (pc := 11) C (dk k_Z_kinds 7 rfl) (by rw [hXN]; decide) ?_
    dsimp only [lst, lstL, lz, kill, Fin.val, Nat.reduceAdd]
    refine V_iconst (pc := 12) C (dk k_Z_kinds 8 rfl) rfl ?_
    refine V_istore_n (pc := 13) C (dk k_Z_kinds 9 rfl) (by rw [hXN]; decide) ?_
    dsimp only [lst, lstL, lz, kill, Fin.val, Nat.reduceAdd]
    refine V_eq (V_loop (fun kk : Nat => kk ≤ 4) (fun kk => [some (vR 128), some (vI t), some (vI (bs (fun k => lk.all (lkq t k (sN x t) (sD x))) kk)), some (vI (kk : Int)), none, none]) (fun _ => σ) (fun kk => 4 - kk) (fun kk hi ih => ?_) 0 (by decide)) rfl rfl rfl
    have hb := bs_256 (fun k => lk.all (lkq t k (sN x t) (sD x))) (show kk ≤ 8 by omega)
    refine V_iload_n (pc := 14) C (dk k_Z_kinds 10 rfl) rfl ?_
    refine V_iconst (pc := 15) C (dk k_Z_kinds 11 rfl) rfl ?_
    refine V_icmpgt (pc := 16) C (dk k_Z_kinds 12 rfl) 107 rfl (by first | exact hR _ _ | with_reducible assumption | exact ⟨by omega, by omega⟩) (by first | exact hR _ _ | with_reducible assumption | exact ⟨by omega, by omega⟩) (fun h2 => ?_) (fun h2 => ?_)
    · skip
      refine V_iload_n (pc := 107) C (dk k_Z_kinds 60 rfl) rfl ?_
      refine V_iret (pc := 108) C E (dk k_Z_kinds 61 rfl) ?_
      obtain rfl : kk = 4 := by omega
      exact ⟨by unfold o_kinds; rw [if_pos (by omega)], rfl⟩
    · skip
      refine V_iconst (pc := 19) C (dk k_Z_kinds 13 rfl) rfl ?_
      refine V_istore (pc := 20) C (dk k_Z_kinds 14 rfl) (by rw [hXN]; decide) ?_
      dsimp only [lst, lstL, lz, kill, Fin.val, Nat.reduceAdd]
      refine V_iconst (pc := 22) C (dk k_Z_kinds 15 rfl) rfl ?_
      refine V_istore (pc := 23) C (dk k_Z_kinds 16 rfl) (by rw [hXN]; decide) ?_
      dsimp only [lst, lstL, lz, kill, Fin.val, Nat.reduceAdd]
      refine V_eq (V_loop (fun i : Nat => i ≤ lk.length) (fun i => [some (vR 128), some (vI t), some (vI (bs (fun k => lk.all (lkq t k (sN x t) (sD x))) kk)), some (vI (kk : Int)), some (vI (if (lk.take i).all (lkq t (kk : Int) (sN x t) (sD x)) = true then 1 else 0)), some (vI (i : Int))]) (fun _ => σ) (fun i => lk.length - i) (fun i hi2 ih2 => ?_) 0 (Nat.zero_le _)) rfl rfl rfl
      refine V_iload (pc := 25) C (dk k_Z_kinds 17 rfl) rfl ?_
      refine V_aload_n (pc := 27) C (dk k_Z_kinds 18 rfl) rfl ?_
      refine V_geti (pc := 28) (ji := 14) C (dk k_Z_kinds 19 rfl) fl_Z_153 kq_128 (by decide) rfl rfl ?_
      refine V_icmpge (pc := 31) C (dk k_Z_kinds 20 rfl) 86 rfl (by first | exact hR _ _ | with_reducible assumption | exact ⟨by omega, by omega⟩) (by first | exact hR _ _ | with_reducible assumption | exact ⟨by omega, by omega⟩) (fun h3 => ?_) (fun h3 => ?_)
      · skip
        obtain rfl : i = lk.length := by omega
        rw [List.take_length]
        have hp8 := bs_p8 (show kk < 8 by omega)
        refine V_iload_n (pc := 86) C (dk k_Z_kinds 48 rfl) rfl ?_
        refine V_iload (pc := 87) C (dk k_Z_kinds 49 rfl) rfl ?_
        refine V_ifeqB (pc := 89) C (dk k_Z_kinds 50 rfl) 98 rfl (fun h4 => ?_) (fun h4 => ?_)
        · skip
          refine V_iconst (pc := 98) C (dk k_Z_kinds 55 rfl) rfl ?_
          refine V_ior (pc := 99) C (dk k_Z_kinds 56 rfl) ⟨by omega, by omega⟩ ⟨by omega, by omega⟩ (by omega) (by omega) ?_
          refine V_istore_n (pc := 100) C (dk k_Z_kinds 57 rfl) (by rw [hXN]; decide) ?_
          dsimp only [lst, lstL, lz, kill, Fin.val, Nat.reduceAdd]
          refine V_iinc (pc := 101) C (dk k_Z_kinds 58 rfl) (by rw [hXN]; decide) rfl ?_
          dsimp only [lst, lstL, lz, kill, Fin.val, Nat.reduceAdd]
          refine V_goto (pc := 104) C (dk k_Z_kinds 59 rfl) 14 rfl ?_
          refine V_fg 4 ?_
          dsimp only [fg]
          refine V_fg 5 ?_
          dsimp only [fg]
          refine V_eq (ih (kk + 1) (by omega) (by omega)) ?_ rfl rfl
          rw [bs_s]
          first | (rw [if_pos (by assumption), ← bs_or]; rfl) | (rw [if_neg (by assumption), Int.add_zero, show (((bs (fun k => lk.all (lkq t k (sN x t) (sD x))) kk).toNat ||| (0 : Int).toNat : Nat) : Int) = (bs (fun k => lk.all (lkq t k (sN x t) (sD x))) kk) from by rw [show (0 : Int).toNat = 0 from rfl, Nat.or_zero]; omega]; rfl)
        · skip
          refine V_iconst (pc := 92) C (dk k_Z_kinds 51 rfl) rfl ?_
          refine V_iload_n (pc := 93) C (dk k_Z_kinds 52 rfl) rfl ?_
          refine V_ishl (pc := 94) C (dk k_Z_kinds 53 rfl) (by omega) (by omega) (by omega) hp8.1 ?_
          refine V_goto (pc := 95) C (dk k_Z_kinds 54 rfl) 99 rfl ?_
          refine V_ior (pc := 99) C (dk k_Z_kinds 56 rfl) ⟨by omega, by omega⟩ ⟨by omega, by omega⟩ (by omega) (by omega) ?_
          refine V_istore_n (pc := 100) C (dk k_Z_kinds 57 rfl) (by rw [hXN]; decide) ?_
          dsimp only [lst, lstL, lz, kill, Fin.val, Nat.reduceAdd]
          refine V_iinc (pc := 101) C (dk k_Z_kinds 58 rfl) (by rw [hXN]; decide) rfl ?_
          dsimp only [lst, lstL, lz, kill, Fin.val, Nat.reduceAdd]
          refine V_goto (pc := 104) C (dk k_Z_kinds 59 rfl) 14 rfl ?_
          refine V_fg 4 ?_
          dsimp only [fg]
          refine V_fg 5 ?_
          dsimp only [fg]
          refine V_eq (ih (kk + 1) (by omega) (by omega)) ?_ rfl rfl
          rw [bs_s]
          first | (rw [if_pos (by assumption), ← bs_or]; rfl) | (rw [if_neg (by assumption), Int.add_zero, show (((bs (fun k => lk.all (lkq t k (sN x t) (sD x))) kk).toNat ||| (0 : Int).toNat : Nat) : Int) = (bs (fun k => lk.all (lkq t k (sN x t) (sD x))) kk) from by rw [show (0 : Int).toNat = 0 from rfl, Nat.or_zero]; omega]; rfl)
      · skip
        obtain ⟨q, hq⟩ : ∃ q, lk[i]? = some q := ⟨_, List.getElem?_eq_getElem (show i < lk.length by omega)⟩
        obtain ⟨q1, q2, q3, q4, q5, q6, q7⟩ := l3 i q hq
        obtain ⟨xN0, xN1, xP0, xP1, xPN⟩ := xT t (by omega) (by omega)
        have ⟨cb0, cb1⟩ := cel_b (k := (kk : Int)) (d := sD x) xN0 xN1 q.2.1.toNat
        refine V_iload (pc := 34) C (dk k_Z_kinds 21 rfl) rfl ?_
        refine V_ifeqB (pc := 36) C (dk k_Z_kinds 22 rfl) 77 rfl (fun h5 => ?_) (fun h5 => ?_)
        · skip
          refine V_iconst (pc := 77) C (dk k_Z_kinds 44 rfl) rfl ?_
          refine V_istore (pc := 78) C (dk k_Z_kinds 45 rfl) (by rw [hXN]; decide) ?_
          dsimp only [lst, lstL, lz, kill, Fin.val, Nat.reduceAdd]
          refine V_iinc (pc := 80) C (dk k_Z_kinds 46 rfl) (by rw [hXN]; decide) rfl ?_
          dsimp only [lst, lstL, lz, kill, Fin.val, Nat.reduceAdd]
          refine V_goto (pc := 83) C (dk k_Z_kinds 47 rfl) 25 rfl ?_
          refine V_eq (ih2 (i + 1) (by omega) (by omega)) ?_ rfl rfl
          rw [lk_s hq]
          have e : ((lk.take i).all (lkq t (kk : Int) (sN x t) (sD x)) && lkq t (kk : Int) (sN x t) (sD x) q) = true ↔ ((lk.take i).all (lkq t (kk : Int) (sN x t) (sD x)) = true ∧ (q.1 = t → cel (kk : Int) (sN x t) (sD x) q.2.1.toNat = q.2.2)) := by rw [Bool.and_eq_true, lkq_t]
          first | (rw [if_pos (e.mpr ⟨by assumption, fun _ => by omega⟩)]; rfl) | (rw [if_neg (fun z => by have z2 := e.mp z; exact absurd z2.1 (by assumption))]; rfl) | (rw [if_neg (fun z => by have z2 := (e.mp z).2 (by omega); omega)]; rfl)
        · skip
          refine V_aload_n (pc := 39) C (dk k_Z_kinds 23 rfl) rfl ?_
          refine V_getr (pc := 40) (o2 := 137) C (dk k_Z_kinds 24 rfl) fl_Z_34 kq_128 (by decide) rfl (by decide) rfl ?_
          refine V_iload (pc := 43) C (dk k_Z_kinds 25 rfl) rfl ?_
          refine V_iald (pc := 45) C (dk k_Z_kinds 26 rfl) kq_137 (by decide) (by omega) (by omega) ?_
          refine V_iload_n (pc := 46) C (dk k_Z_kinds 27 rfl) rfl ?_
          refine V_icmpne (pc := 47) C (dk k_Z_kinds 28 rfl) 73 rfl (by first | exact hR _ _ | with_reducible assumption | exact ⟨by omega, by omega⟩) (by first | exact hR _ _ | with_reducible assumption | exact ⟨by omega, by omega⟩) (fun h6 => ?_) (fun h6 => ?_)
          · skip
            refine V_iconst (pc := 73) C (dk k_Z_kinds 42 rfl) rfl ?_
            refine V_goto (pc := 74) C (dk k_Z_kinds 43 rfl) 78 rfl ?_
            refine V_istore (pc := 78) C (dk k_Z_kinds 45 rfl) (by rw [hXN]; decide) ?_
            dsimp only [lst, lstL, lz, kill, Fin.val, Nat.reduceAdd]
            refine V_iinc (pc := 80) C (dk k_Z_kinds 46 rfl) (by rw [hXN]; decide) rfl ?_
            dsimp only [lst, lstL, lz, kill, Fin.val, Nat.reduceAdd]
            refine V_goto (pc := 83) C (dk k_Z_kinds 47 rfl) 25 rfl ?_
            refine V_eq (ih2 (i + 1) (by omega) (by omega)) ?_ rfl rfl
            rw [lk_s hq]
            have e : ((lk.take i).all (lkq t (kk : Int) (sN x t) (sD x)) && lkq t (kk : Int) (sN x t) (sD x) q) = true ↔ ((lk.take i).all (lkq t (kk : Int) (sN x t) (sD x)) = true ∧ (q.1 = t → cel (kk : Int) (sN x t) (sD x) q.2.1.toNat = q.2.2)) := by rw [Bool.and_eq_true, lkq_t]
            first | (rw [if_pos (e.mpr ⟨by assumption, fun _ => by omega⟩)]; rfl) | (rw [if_neg (fun z => by have z2 := e.mp z; exact absurd z2.1 (by assumption))]; rfl) | (rw [if_neg (fun z => by have z2 := (e.mp z).2 (by omega); omega)]; rfl)
          · skip
            refine V_aload_n (pc := 50) C (dk k_Z_kinds 29 rfl) rfl ?_
            refine V_iload_n (pc := 51) C (dk k_Z_kinds 30 rfl) rfl ?_
            refine V_iload_n (pc := 52) C (dk k_Z_kinds 31 rfl) rfl ?_
            refine V_aload_n (pc := 53) C (dk k_Z_kinds 32 rfl) rfl ?_
            refine V_getr (pc := 54) (o2 := 138) C (dk k_Z_kinds 33 rfl) fl_Z_37 kq_128 (by decide) rfl (by decide) rfl ?_
            refine V_iload (pc := 57) C (dk k_Z_kinds 34 rfl) rfl ?_
            refine V_iald (pc := 59) C (dk k_Z_kinds 35 rfl) kq_138 (by decide) (by omega) (by omega) ?_
            rw [q2]
            refine V_callV (pc := 60) C (dk k_Z_kinds 36 rfl) lk_Z_246 cm_Z_nearBy vm_Z_nearBy (c_Z_nearBy _ _ _ π x j t kk q.2.1 hπ0 ok hx0 xk (by omega) (by omega) (by omega) ⟨by omega, by omega⟩ q4 (by omega)) kq_128 rfl rfl rfl (Nat.le_of_ble_eq_true rfl) (Rm.mono hRm (by decide) (by decide)) ?_
            refine V_aload_n (pc := 63) C (dk k_Z_kinds 37 rfl) rfl ?_
            refine V_getr (pc := 64) (o2 := 139) C (dk k_Z_kinds 38 rfl) fl_Z_40 kq_128 (by decide) rfl (by decide) rfl ?_
            refine V_iload (pc := 67) C (dk k_Z_kinds 39 rfl) rfl ?_
            refine V_iald (pc := 69) C (dk k_Z_kinds 40 rfl) kq_139 (by decide) (by omega) (by omega) ?_
            refine V_icmpne (pc := 70) C (dk k_Z_kinds 41 rfl) 77 rfl (by first | exact hR _ _ | with_reducible assumption | exact ⟨by omega, by omega⟩) (by first | exact hR _ _ | with_reducible assumption | exact ⟨by omega, by omega⟩) (fun h7 => ?_) (fun h7 => ?_)
            · skip
              refine V_iconst (pc := 77) C (dk k_Z_kinds 44 rfl) rfl ?_
              refine V_istore (pc := 78) C (dk k_Z_kinds 45 rfl) (by rw [hXN]; decide) ?_
              dsimp only [lst, lstL, lz, kill, Fin.val, Nat.reduceAdd]
              refine V_iinc (pc := 80) C (dk k_Z_kinds 46 rfl) (by rw [hXN]; decide) rfl ?_
              dsimp only [lst, lstL, lz, kill, Fin.val, Nat.reduceAdd]
              refine V_goto (pc := 83) C (dk k_Z_kinds 47 rfl) 25 rfl ?_
              refine V_eq (ih2 (i + 1) (by omega) (by omega)) ?_ rfl rfl
              rw [lk_s hq]
              have e : ((lk.take i).all (lkq t (kk : Int) (sN x t) (sD x)) && lkq t (kk : Int) (sN x t) (sD x) q) = true ↔ ((lk.take i).all (lkq t (kk : Int) (sN x t) (sD x)) = true ∧ (q.1 = t → cel (kk : Int) (sN x t) (sD x) q.2.1.toNat = q.2.2)) := by rw [Bool.and_eq_true, lkq_t]
              first | (rw [if_pos (e.mpr ⟨by assumption, fun _ => by omega⟩)]; rfl) | (rw [if_neg (fun z => by have z2 := e.mp z; exact absurd z2.1 (by assumption))]; rfl) | (rw [if_neg (fun z => by have z2 := (e.mp z).2 (by omega); omega)]; rfl)
            · skip
              refine V_iconst (pc := 73) C (dk k_Z_kinds 42 rfl) rfl ?_
              refine V_goto (pc := 74) C (dk k_Z_kinds 43 rfl) 78 rfl ?_
              refine V_istore (pc := 78) C (dk k_Z_kinds 45 rfl) (by rw [hXN]; decide) ?_
              dsimp only [lst, lstL, lz, kill, Fin.val, Nat.reduceAdd]
              refine V_iinc (pc := 80) C (dk k_Z_kinds 46 rfl) (by rw [hXN]; decide) rfl ?_
              dsimp only [lst, lstL, lz, kill, Fin.val, Nat.reduceAdd]
              refine V_goto (pc := 83) C (dk k_Z_kinds 47 rfl) 25 rfl ?_
              refine V_eq (ih2 (i + 1) (by omega) (by omega)) ?_ rfl rfl
              rw [lk_s hq]
              have e : ((lk.take i).all (lkq t (kk : Int) (sN x t) (sD x)) && lkq t (kk : Int) (sN x t) (sD x) q) = true ↔ ((lk.take i).all (lkq t (kk : Int) (sN x t) (sD x)) = true ∧ (q.1 = t → cel (kk : Int) (sN x t) (sD x) q.2.1.toNat = q.2.2)) := by rw [Bool.and_eq_true, lkq_t]
              first | (rw [if_pos (e.mpr ⟨by assumption, fun _ => by omega⟩)]; rfl) | (rw [if_neg (fun z => by have z2 := e.mp z; exact absurd z2.1 (by assumption))]; rfl) | (rw [if_neg (fun z => by have z2 := (e.mp z).2 (by omega); omega)]; rfl)
  · skip
    refine V_iconst (pc := 8) C (dk k_Z_kinds 4 rfl) rfl ?_
    refine V_iret (pc := 9) C E (dk k_Z_kinds 5 rfl) ?_
    exact ⟨by unfold o_kinds; rw [if_neg (by omega)], rfl⟩

def i_Z_common : List (Nat × (Instr × Nat)) := [(0, (.lload_n 0, 1)), (1, (.lstore 4, 2)), (3, (.lload_n 2, 1)), (4, (.lstore 6, 2)), (6, (.lload 6, 2)), (8, (.lconst 0, 1)), (9, (.lcmp, 1)), (10, (.ifCond .eq 21, 3)), (13, (.lload 4, 2)), (15, (.lload 6, 2)), (17, (.lrem, 1)), (18, (.lstore 8, 2)), (20, (.lload 6, 2)), (22, (.lstore 4, 2)), (24, (.lload 8, 2)), (26, (.lstore 6, 2)), (28, (.goto (-22), 3)), (31, (.lload 4, 2)), (33, (.lreturn, 1))]
theorem k_Z_common : i_Z_common.all (fun q => decide (decode b_Z_common q.1 = .ok q.2)) = true := by decide +kernel

set_option maxHeartbeats 1000000 in
set_option maxRecDepth 20000 in
theorem c_Z_common (l : Launch) (G : GE) (σ : Wd) (a b : Int) (ha : 0 ≤ a) (hb : 0 ≤ b) (ha1 : a < 34359738368) (hb1 : b < 34359738368) : Ct l G y_Z_common b_Z_common 10 (some (.long)) 0 0 [vL a, vL b] σ (Dt (some (vL (Int.gcd a b : Nat))) σ) := by
  refine Ct.of cm_Z_common (Nat.le_of_ble_eq_true rfl) ?_
  intro X hXl hXG hXN hRm C E
  subst hXl; subst hXG
  show V X 0 [some (vL a), none, some (vL b), none, none, none, none, none, none, none] [] σ
  refine V_R (fun hR => ?_)
  refine V_lload_n (pc := 0) C (dk k_Z_common 0 rfl) rfl ?_
  refine V_lstore (pc := 1) C (dk k_Z_common 1 rfl) (by rw [hXN]; decide) ?_
  dsimp only [lst, lstL, lz, kill, Fin.val, Nat.reduceAdd]
  refine V_lload_n (pc := 3) C (dk k_Z_common 2 rfl) rfl ?_
  refine V_lstore (pc := 4) C (dk k_Z_common 3 rfl) (by rw [hXN]; decide) ?_
  dsimp only [lst, lstL, lz, kill, Fin.val, Nat.reduceAdd]
  refine V_eq (V_loop (fun q : Int × (Int × Int) => euJ a b q.1 q.2.1 q.2.2) (fun q => [some (vL a), none, some (vL b), none, some (vL q.2.1), none, some (vL q.2.2), none, none, none]) (fun _ => σ) (fun q => (100 - q.1).toNat) (fun q hq ih => ?_) (0, (a, b)) (Or.inl ⟨rfl, rfl, rfl⟩)) rfl rfl rfl
  obtain ⟨i, x, y⟩ := q
  dsimp only at *
  have ⟨g1, g2, g3, g4, g5, g6, g7⟩ := euJ_b ha hb ha1 hb1 hq
  have hab : a * b ≤ 34359738368 * 34359738368 := Int.mul_le_mul (by omega) (by omega) hb (by omega)
  have hi100 : i = 100 → y = 0 := fun q => by subst q; rcases hq with ⟨h, -⟩ | ⟨-, h⟩; exact absurd h (by decide); exact euI_end (by omega) h
  refine V_lload (pc := 6) C (dk k_Z_common 4 rfl) rfl ?_
  refine V_lconst (pc := 8) (n' := 0) C (dk k_Z_common 5 rfl) rfl ?_
  refine V_lcmp (pc := 9) C (dk k_Z_common 6 rfl) ⟨by omega, by omega⟩ ⟨by omega, by omega⟩ ?_
  refine V_ifeqC (pc := 10) C (dk k_Z_common 7 rfl) 31 rfl  (fun h1 => ?_) (fun h1 => ?_)
  · skip
    refine V_lload (pc := 31) C (dk k_Z_common 17 rfl) rfl ?_
    refine V_lret (pc := 33) C E (dk k_Z_common 18 rfl) ?_
    obtain rfl : y = 0 := by omega
    refine ⟨?_, rfl⟩
    rw [← g7, Int.gcd_zero_right]
    congr 2
    omega
  · skip
    refine V_lload (pc := 13) C (dk k_Z_common 8 rfl) rfl ?_
    refine V_lload (pc := 15) C (dk k_Z_common 9 rfl) rfl ?_
    refine V_lrem (pc := 17) C (dk k_Z_common 10 rfl) ⟨by omega, by omega⟩ ⟨by omega, by omega⟩ (by omega) (by omega) ?_
    refine V_lstore (pc := 18) C (dk k_Z_common 11 rfl) (by rw [hXN]; decide) ?_
    dsimp only [lst, lstL, lz, kill, Fin.val, Nat.reduceAdd]
    refine V_lload (pc := 20) C (dk k_Z_common 12 rfl) rfl ?_
    refine V_lstore (pc := 22) C (dk k_Z_common 13 rfl) (by rw [hXN]; decide) ?_
    dsimp only [lst, lstL, lz, kill, Fin.val, Nat.reduceAdd]
    refine V_lload (pc := 24) C (dk k_Z_common 14 rfl) rfl ?_
    refine V_lstore (pc := 26) C (dk k_Z_common 15 rfl) (by rw [hXN]; decide) ?_
    dsimp only [lst, lstL, lz, kill, Fin.val, Nat.reduceAdd]
    refine V_goto (pc := 28) C (dk k_Z_common 16 rfl) 6 rfl ?_
    refine V_fg 8 ?_
    dsimp only [fg]
    exact ih (i + 1, (y, x % y)) (euJ_s ha hb ha1 hb1 hq (by omega) (by omega)) (by dsimp only; omega)

def i_Z_times : List (Nat × (Instr × Nat)) := [(0, (.lload_n 0, 1)), (1, (.lstore 4, 2)), (3, (.iconst 0, 1)), (4, (.istore 6, 2)), (6, (.iload 6, 2)), (8, (.iload_n 3, 1)), (9, (.if_icmp .ge 16, 3)), (12, (.lload 4, 2)), (14, (.iload_n 2, 1)), (15, (.i2l, 1)), (16, (.lmul, 1)), (17, (.lstore 4, 2)), (19, (.iinc 6 1, 3)), (22, (.goto (-16), 3)), (25, (.lload 4, 2)), (27, (.lreturn, 1))]
theorem k_Z_times : i_Z_times.all (fun q => decide (decode b_Z_times q.1 = .ok q.2)) = true := by decide +kernel

set_option maxHeartbeats 1000000 in
set_option maxRecDepth 20000 in
theorem c_Z_times (l : Launch) (G : GE) (σ : Wd) (v b n : Int) (hb : inR b) (hn0 : 0 ≤ n) (hn1 : n ≤ 100) : Ct l G y_Z_times b_Z_times 7 (some (.long)) 0 0 [vL v, vI b, vI n] σ (Dt (some (vL (v * b ^ n.toNat))) σ) := by
  refine Ct.of cm_Z_times (Nat.le_of_ble_eq_true rfl) ?_
  intro X hXl hXG hXN hRm C E
  subst hXl; subst hXG
  have ⟨hb_1, hb_2⟩ := hb
  show V X 0 [some (vL v), none, some (vI b), some (vI n), none, none, none] [] σ
  refine V_R (fun hR => ?_)
  refine V_lload_n (pc := 0) C (dk k_Z_times 0 rfl) rfl ?_
  refine V_lstore (pc := 1) C (dk k_Z_times 1 rfl) (by rw [hXN]; decide) ?_
  dsimp only [lst, lstL, lz, kill, Fin.val, Nat.reduceAdd]
  refine V_iconst (pc := 3) C (dk k_Z_times 2 rfl) rfl ?_
  refine V_istore (pc := 4) C (dk k_Z_times 3 rfl) (by rw [hXN]; decide) ?_
  dsimp only [lst, lstL, lz, kill, Fin.val, Nat.reduceAdd]
  refine V_eq (V_loop (fun i : Nat => (i : Int) ≤ n) (fun i => [some (vL v), none, some (vI b), some (vI n), some (vL (v * b ^ i)), none, some (vI (i : Int))]) (fun _ => σ) (fun i => n.toNat - i) (fun i hi ih => ?_) 0 (by omega)) (by rw [Int.pow_zero, Int.mul_one]; rfl) rfl rfl
  refine V_iload (pc := 6) C (dk k_Z_times 4 rfl) rfl ?_
  refine V_iload_n (pc := 8) C (dk k_Z_times 5 rfl) rfl ?_
  refine V_icmpge (pc := 9) C (dk k_Z_times 6 rfl) 25 rfl (by first | exact hR _ _ | with_reducible assumption | exact ⟨by omega, by omega⟩) (by first | exact hR _ _ | with_reducible assumption | exact ⟨by omega, by omega⟩) (fun h1 => ?_) (fun h1 => ?_)
  · skip
    refine V_lload (pc := 25) C (dk k_Z_times 14 rfl) rfl ?_
    refine V_lret (pc := 27) C E (dk k_Z_times 15 rfl) ?_
    obtain rfl : n = i := by omega
    exact ⟨by rw [Int.toNat_natCast], rfl⟩
  · skip
    refine V_lload (pc := 12) C (dk k_Z_times 7 rfl) rfl ?_
    refine V_iload_n (pc := 14) C (dk k_Z_times 8 rfl) rfl ?_
    refine V_i2l (pc := 15) C (dk k_Z_times 9 rfl) (by first | exact hR _ _ | with_reducible assumption | exact ⟨by omega, by omega⟩) ?_
    refine V_lmul (pc := 16) C (dk k_Z_times 10 rfl) ?_
    refine V_lstore (pc := 17) C (dk k_Z_times 11 rfl) (by rw [hXN]; decide) ?_
    dsimp only [lst, lstL, lz, kill, Fin.val, Nat.reduceAdd]
    refine V_iinc (pc := 19) C (dk k_Z_times 12 rfl) (by rw [hXN]; decide) rfl ?_
    dsimp only [lst, lstL, lz, kill, Fin.val, Nat.reduceAdd]
    refine V_goto (pc := 22) C (dk k_Z_times 13 rfl) 6 rfl ?_
    refine V_eq (ih (i + 1) (by omega) (by omega)) ?_ rfl rfl
    rw [Int.pow_succ, ← Int.mul_assoc]; rfl

def i_Z_sure : List (Nat × (Instr × Nat)) := [(0, (.iload_n 1, 1)), (1, (.iconst 1, 1)), (2, (.bipush 9, 2)), (4, (.invokestatic 93, 3)), (7, (.ifCond .eq 42, 3)), (10, (.iload_n 2, 1)), (11, (.iconst 0, 1)), (12, (.bipush 9, 2)), (14, (.invokestatic 93, 3)), (17, (.ifCond .eq 32, 3)), (20, (.iload_n 3, 1)), (21, (.iconst 0, 1)), (22, (.iconst 4, 1)), (23, (.invokestatic 93, 3)), (26, (.ifCond .eq 23, 3)), (29, (.iload 4, 2)), (31, (.iconst 0, 1)), (32, (.iconst 4, 1)), (33, (.invokestatic 93, 3)), (36, (.ifCond .eq 13, 3)), (39, (.iload 5, 2)), (41, (.iconst 0, 1)), (42, (.iconst 1, 1)), (43, (.invokestatic 93, 3)), (46, (.ifCond .ne 5, 3)), (49, (.iconst (-1), 1)), (50, (.ireturn, 1)), (51, (.iload_n 1, 1)), (52, (.i2l, 1)), (53, (.bipush 10, 2)), (55, (.iload_n 2, 1)), (56, (.isub, 1)), (57, (.iload_n 3, 1)), (58, (.invokestatic 249, 3)), (61, (.iload_n 2, 1)), (62, (.iload 4, 2)), (64, (.invokestatic 249, 3)), (67, (.lstore 6, 2)), (69, (.ldc2_w 253, 3)), (72, (.iload_n 1, 1)), (73, (.i2l, 1)), (74, (.lsub, 1)), (75, (.iload_n 2, 1)), (76, (.iload_n 3, 1)), (77, (.invokestatic 249, 3)), (80, (.bipush 10, 2)), (82, (.iload_n 2, 1)), (83, (.isub, 1)), (84, (.iload 4, 2)), (86, (.invokestatic 249, 3)), (89, (.lstore 8, 2)), (91, (.lload 6, 2)), (93, (.lload 8, 2)), (95, (.ladd, 1)), (96, (.lconst 0, 1)), (97, (.lcmp, 1)), (98, (.ifCond .ne 6, 3)), (101, (.bipush (-4), 2)), (103, (.ireturn, 1)), (104, (.lload 6, 2)), (106, (.lload 6, 2)), (108, (.lload 8, 2)), (110, (.ladd, 1)), (111, (.invokestatic 255, 3)), (114, (.lstore 10, 2)), (116, (.iload 5, 2)), (118, (.ifCond .ne 11, 3)), (121, (.lload 6, 2)), (123, (.lload 10, 2)), (125, (.ldiv, 1)), (126, (.goto 11, 3)), (129, (.lload 6, 2)), (131, (.lload 8, 2)), (133, (.ladd, 1)), (134, (.lload 10, 2)), (136, (.ldiv, 1)), (137, (.l2i, 1)), (138, (.ireturn, 1))]
theorem k_Z_sure : i_Z_sure.all (fun q => decide (decode b_Z_sure q.1 = .ok q.2)) = true := by decide +kernel

set_option maxHeartbeats 1000000 in
set_option maxRecDepth 20000 in
theorem c_Z_sure (l : Launch) (G : GE) (σ : Wd) (s e a b k : Int) (hs : inR s) (he : inR e) (ha : inR a) (hb : inR b) (hk : inR k) : Ct l G y_Z_sure b_Z_sure 12 (some (.int)) 1 29 [vR 128, vI s, vI e, vI a, vI b, vI k] σ (Dt (some (vI (o_sure s e a b k))) σ) := by
  refine Ct.of cm_Z_sure (Nat.le_of_ble_eq_true rfl) ?_
  intro X hXl hXG hXN hRm C E
  subst hXl; subst hXG
  have ⟨hs_1, hs_2⟩ := hs
  have ⟨he_1, he_2⟩ := he
  have ⟨ha_1, ha_2⟩ := ha
  have ⟨hb_1, hb_2⟩ := hb
  have ⟨hk_1, hk_2⟩ := hk
  show V X 0 [some (vR 128), some (vI s), some (vI e), some (vI a), some (vI b), some (vI k), none, none, none, none, none, none] [] σ
  refine V_R (fun hR => ?_)
  refine V_iload_n (pc := 0) C (dk k_Z_sure 0 rfl) rfl ?_
  refine V_iconst (pc := 1) C (dk k_Z_sure 1 rfl) rfl ?_
  refine V_bipush (pc := 2) (n' := 9) C (dk k_Z_sure 2 rfl) rfl ?_
  refine V_callS (pc := 4) C (dk k_Z_sure 3 rfl) lk_Z_93 cm_Z_in sm_Z_in (c_Z_in _ _ _ s 1 9 hs ⟨by decide, by decide⟩ ⟨by decide, by decide⟩) rfl rfl (Nat.le_of_ble_eq_true rfl) (Rm.mono hRm (by decide) (by decide)) ?_
  refine V_ifeqB (pc := 7) C (dk k_Z_sure 4 rfl) 49 rfl (fun h1 => ?_) (fun h1 => ?_)
  · skip
    refine V_iconst (pc := 49) C (dk k_Z_sure 25 rfl) rfl ?_
    refine V_iret (pc := 50) C E (dk k_Z_sure 26 rfl) ?_
    exact ⟨by unfold o_sure; rw [if_neg (by omega)], rfl⟩
  · skip
    refine V_iload_n (pc := 10) C (dk k_Z_sure 5 rfl) rfl ?_
    refine V_iconst (pc := 11) C (dk k_Z_sure 6 rfl) rfl ?_
    refine V_bipush (pc := 12) (n' := 9) C (dk k_Z_sure 7 rfl) rfl ?_
    refine V_callS (pc := 14) C (dk k_Z_sure 8 rfl) lk_Z_93 cm_Z_in sm_Z_in (c_Z_in _ _ _ e 0 9 he ⟨by decide, by decide⟩ ⟨by decide, by decide⟩) rfl rfl (Nat.le_of_ble_eq_true rfl) (Rm.mono hRm (by decide) (by decide)) ?_
    refine V_ifeqB (pc := 17) C (dk k_Z_sure 9 rfl) 49 rfl (fun h2 => ?_) (fun h2 => ?_)
    · skip
      refine V_iconst (pc := 49) C (dk k_Z_sure 25 rfl) rfl ?_
      refine V_iret (pc := 50) C E (dk k_Z_sure 26 rfl) ?_
      exact ⟨by unfold o_sure; rw [if_neg (by omega)], rfl⟩
    · skip
      refine V_iload_n (pc := 20) C (dk k_Z_sure 10 rfl) rfl ?_
      refine V_iconst (pc := 21) C (dk k_Z_sure 11 rfl) rfl ?_
      refine V_iconst (pc := 22) C (dk k_Z_sure 12 rfl) rfl ?_
      refine V_callS (pc := 23) C (dk k_Z_sure 13 rfl) lk_Z_93 cm_Z_in sm_Z_in (c_Z_in _ _ _ a 0 4 ha ⟨by decide, by decide⟩ ⟨by decide, by decide⟩) rfl rfl (Nat.le_of_ble_eq_true rfl) (Rm.mono hRm (by decide) (by decide)) ?_
      refine V_ifeqB (pc := 26) C (dk k_Z_sure 14 rfl) 49 rfl (fun h3 => ?_) (fun h3 => ?_)
      · skip
        refine V_iconst (pc := 49) C (dk k_Z_sure 25 rfl) rfl ?_
        refine V_iret (pc := 50) C E (dk k_Z_sure 26 rfl) ?_
        exact ⟨by unfold o_sure; rw [if_neg (by omega)], rfl⟩
      · skip
        refine V_iload (pc := 29) C (dk k_Z_sure 15 rfl) rfl ?_
        refine V_iconst (pc := 31) C (dk k_Z_sure 16 rfl) rfl ?_
        refine V_iconst (pc := 32) C (dk k_Z_sure 17 rfl) rfl ?_
        refine V_callS (pc := 33) C (dk k_Z_sure 18 rfl) lk_Z_93 cm_Z_in sm_Z_in (c_Z_in _ _ _ b 0 4 hb ⟨by decide, by decide⟩ ⟨by decide, by decide⟩) rfl rfl (Nat.le_of_ble_eq_true rfl) (Rm.mono hRm (by decide) (by decide)) ?_
        refine V_ifeqB (pc := 36) C (dk k_Z_sure 19 rfl) 49 rfl (fun h4 => ?_) (fun h4 => ?_)
        · skip
          refine V_iconst (pc := 49) C (dk k_Z_sure 25 rfl) rfl ?_
          refine V_iret (pc := 50) C E (dk k_Z_sure 26 rfl) ?_
          exact ⟨by unfold o_sure; rw [if_neg (by omega)], rfl⟩
        · skip
          refine V_iload (pc := 39) C (dk k_Z_sure 20 rfl) rfl ?_
          refine V_iconst (pc := 41) C (dk k_Z_sure 21 rfl) rfl ?_
          refine V_iconst (pc := 42) C (dk k_Z_sure 22 rfl) rfl ?_
          refine V_callS (pc := 43) C (dk k_Z_sure 23 rfl) lk_Z_93 cm_Z_in sm_Z_in (c_Z_in _ _ _ k 0 1 hk ⟨by decide, by decide⟩ ⟨by decide, by decide⟩) rfl rfl (Nat.le_of_ble_eq_true rfl) (Rm.mono hRm (by decide) (by decide)) ?_
          refine V_ifneB (pc := 46) C (dk k_Z_sure 24 rfl) 51 rfl (fun h5 => ?_) (fun h5 => ?_)
          · skip
            have ⟨p1, p2⟩ := pow_b (b := 10 - e) (a := a) (by omega) (by omega) (by omega) (by omega)
            have ⟨p3, p4⟩ := pow_b (b := e) (a := b) (by omega) (by omega) (by omega) (by omega)
            have ⟨p5, p6⟩ := pow_b (b := e) (a := a) (by omega) (by omega) (by omega) (by omega)
            have ⟨p7, p8⟩ := pow_b (b := 10 - e) (a := b) (by omega) (by omega) (by omega) (by omega)
            have ⟨i0, i1⟩ := mul3_b (a := s) (by omega) (by omega) p1 p2 p3 p4
            have ⟨n0, n1⟩ := mul3_b (a := 10 - s) (by omega) (by omega) p5 p6 p7 p8
            have i0 : 0 ≤ suI s e a b := i0
            have i1 : suI s e a b ≤ 1000000000 := i1
            have n0 : 0 ≤ suN s e a b := n0
            have n1 : suN s e a b ≤ 1000000000 := n1
            refine V_iload_n (pc := 51) C (dk k_Z_sure 27 rfl) rfl ?_
            refine V_i2l (pc := 52) C (dk k_Z_sure 28 rfl) (by first | exact hR _ _ | with_reducible assumption | exact ⟨by omega, by omega⟩) ?_
            refine V_bipush (pc := 53) (n' := 10) C (dk k_Z_sure 29 rfl) rfl ?_
            refine V_iload_n (pc := 55) C (dk k_Z_sure 30 rfl) rfl ?_
            refine V_isub (pc := 56) C (dk k_Z_sure 31 rfl) ?_
            refine V_iload_n (pc := 57) C (dk k_Z_sure 32 rfl) rfl ?_
            refine V_callS (pc := 58) C (dk k_Z_sure 33 rfl) lk_Z_249 cm_Z_times sm_Z_times (c_Z_times _ _ _ (s) (10 - e) a ⟨by omega, by omega⟩ (by omega) (by omega)) rfl rfl (Nat.le_of_ble_eq_true rfl) (Rm.mono hRm (by decide) (by decide)) ?_
            refine V_iload_n (pc := 61) C (dk k_Z_sure 34 rfl) rfl ?_
            refine V_iload (pc := 62) C (dk k_Z_sure 35 rfl) rfl ?_
            refine V_callS (pc := 64) C (dk k_Z_sure 36 rfl) lk_Z_249 cm_Z_times sm_Z_times (c_Z_times _ _ _ (s * (10 - e) ^ a.toNat) e b ⟨by omega, by omega⟩ (by omega) (by omega)) rfl rfl (Nat.le_of_ble_eq_true rfl) (Rm.mono hRm (by decide) (by decide)) ?_
            refine V_lstore (pc := 67) C (dk k_Z_sure 37 rfl) (by rw [hXN]; decide) ?_
            dsimp only [lst, lstL, lz, kill, Fin.val, Nat.reduceAdd]
            refine V_ldc2 (pc := 69) (n' := 10) C (dk k_Z_sure 38 rfl) kc_Z_253 rfl ?_
            refine V_iload_n (pc := 72) C (dk k_Z_sure 39 rfl) rfl ?_
            refine V_i2l (pc := 73) C (dk k_Z_sure 40 rfl) (by first | exact hR _ _ | with_reducible assumption | exact ⟨by omega, by omega⟩) ?_
            refine V_lsub (pc := 74) C (dk k_Z_sure 41 rfl) ?_
            refine V_iload_n (pc := 75) C (dk k_Z_sure 42 rfl) rfl ?_
            refine V_iload_n (pc := 76) C (dk k_Z_sure 43 rfl) rfl ?_
            refine V_callS (pc := 77) C (dk k_Z_sure 44 rfl) lk_Z_249 cm_Z_times sm_Z_times (c_Z_times _ _ _ (10 - s) e a ⟨by omega, by omega⟩ (by omega) (by omega)) rfl rfl (Nat.le_of_ble_eq_true rfl) (Rm.mono hRm (by decide) (by decide)) ?_
            refine V_bipush (pc := 80) (n' := 10) C (dk k_Z_sure 45 rfl) rfl ?_
            refine V_iload_n (pc := 82) C (dk k_Z_sure 46 rfl) rfl ?_
            refine V_isub (pc := 83) C (dk k_Z_sure 47 rfl) ?_
            refine V_iload (pc := 84) C (dk k_Z_sure 48 rfl) rfl ?_
            refine V_callS (pc := 86) C (dk k_Z_sure 49 rfl) lk_Z_249 cm_Z_times sm_Z_times (c_Z_times _ _ _ ((10 - s) * e ^ a.toNat) (10 - e) b ⟨by omega, by omega⟩ (by omega) (by omega)) rfl rfl (Nat.le_of_ble_eq_true rfl) (Rm.mono hRm (by decide) (by decide)) ?_
            refine V_lstore (pc := 89) C (dk k_Z_sure 50 rfl) (by rw [hXN]; decide) ?_
            dsimp only [lst, lstL, lz, kill, Fin.val, Nat.reduceAdd]
            show V X _ [some (vR 128), some (vI s), some (vI e), some (vI a), some (vI b), some (vI k), some (vL (suI s e a b)), none, some (vL (suN s e a b)), none, none, none] _ _
            refine V_lload (pc := 91) C (dk k_Z_sure 51 rfl) rfl ?_
            refine V_lload (pc := 93) C (dk k_Z_sure 52 rfl) rfl ?_
            refine V_ladd (pc := 95) C (dk k_Z_sure 53 rfl) ?_
            refine V_lconst (pc := 96) (n' := 0) C (dk k_Z_sure 54 rfl) rfl ?_
            refine V_lcmp (pc := 97) C (dk k_Z_sure 55 rfl) ⟨by omega, by omega⟩ ⟨by omega, by omega⟩ ?_
            refine V_ifneC (pc := 98) C (dk k_Z_sure 56 rfl) 104 rfl  (fun h6 => ?_) (fun h6 => ?_)
            · skip
              have hg : 0 < Int.gcd (suI s e a b) (suI s e a b + suN s e a b) := Int.gcd_pos_of_ne_zero_right _ (by omega)
              have hgb : (Int.gcd (suI s e a b) (suI s e a b + suN s e a b) : Int) ≤ suI s e a b + suN s e a b := Int.le_of_dvd (by omega) (Int.gcd_dvd_right ..)
              refine V_lload (pc := 104) C (dk k_Z_sure 59 rfl) rfl ?_
              refine V_lload (pc := 106) C (dk k_Z_sure 60 rfl) rfl ?_
              refine V_lload (pc := 108) C (dk k_Z_sure 61 rfl) rfl ?_
              refine V_ladd (pc := 110) C (dk k_Z_sure 62 rfl) ?_
              refine V_callS (pc := 111) C (dk k_Z_sure 63 rfl) lk_Z_255 cm_Z_common sm_Z_common (c_Z_common _ _ _ (suI s e a b) (suI s e a b + suN s e a b) (by omega) (by omega) (by omega) (by omega)) rfl rfl (Nat.le_of_ble_eq_true rfl) (Rm.mono hRm (by decide) (by decide)) ?_
              refine V_lstore (pc := 114) C (dk k_Z_sure 64 rfl) (by rw [hXN]; decide) ?_
              dsimp only [lst, lstL, lz, kill, Fin.val, Nat.reduceAdd]
              refine V_iload (pc := 116) C (dk k_Z_sure 65 rfl) rfl ?_
              refine V_ifne (pc := 118) C (dk k_Z_sure 66 rfl) 129 rfl (by first | exact hR _ _ | with_reducible assumption | exact ⟨by omega, by omega⟩) (fun h7 => ?_) (fun h7 => ?_)
              · skip
                refine V_lload (pc := 129) C (dk k_Z_sure 71 rfl) rfl ?_
                refine V_lload (pc := 131) C (dk k_Z_sure 72 rfl) rfl ?_
                refine V_ladd (pc := 133) C (dk k_Z_sure 73 rfl) ?_
                refine V_lload (pc := 134) C (dk k_Z_sure 74 rfl) rfl ?_
                refine V_ldiv (pc := 136) C (dk k_Z_sure 75 rfl) ⟨by omega, by omega⟩ ⟨by omega, by omega⟩ (by omega) (by omega) ?_
                refine V_l2i (pc := 137) C (dk k_Z_sure 76 rfl) ?_
                refine V_iret (pc := 138) C E (dk k_Z_sure 77 rfl) ?_
                refine ⟨?_, rfl⟩
                unfold o_sure
                rw [if_pos (by omega), if_neg (by omega)]
                unfold lp
                first | (rw [if_pos (by omega)]; done) | (rw [if_neg (by omega)]; done)
              · skip
                refine V_lload (pc := 121) C (dk k_Z_sure 67 rfl) rfl ?_
                refine V_lload (pc := 123) C (dk k_Z_sure 68 rfl) rfl ?_
                refine V_ldiv (pc := 125) C (dk k_Z_sure 69 rfl) ⟨by omega, by omega⟩ ⟨by omega, by omega⟩ (by omega) (by omega) ?_
                refine V_goto (pc := 126) C (dk k_Z_sure 70 rfl) 137 rfl ?_
                refine V_l2i (pc := 137) C (dk k_Z_sure 76 rfl) ?_
                refine V_iret (pc := 138) C E (dk k_Z_sure 77 rfl) ?_
                refine ⟨?_, rfl⟩
                unfold o_sure
                rw [if_pos (by omega), if_neg (by omega)]
                unfold lp
                first | (rw [if_pos (by omega)]; done) | (rw [if_neg (by omega)]; done)
            · skip
              refine V_bipush (pc := 101) (n' := (-4)) C (dk k_Z_sure 57 rfl) rfl ?_
              refine V_iret (pc := 103) C E (dk k_Z_sure 58 rfl) ?_
              exact ⟨by unfold o_sure; rw [if_pos (by omega), if_pos (by omega)], rfl⟩
          · skip
            refine V_iconst (pc := 49) C (dk k_Z_sure 25 rfl) rfl ?_
            refine V_iret (pc := 50) C E (dk k_Z_sure 26 rfl) ?_
            exact ⟨by unfold o_sure; rw [if_neg (by omega)], rfl⟩

def i_Z_fine : List (Nat × (Instr × Nat)) := [(0, (.aload_n 0, 1)), (1, (.iload_n 1, 1)), (2, (.invokevirtual 180, 3)), (5, (.ifCond .eq 12, 3)), (8, (.iload_n 2, 1)), (9, (.iconst 1, 1)), (10, (.iconst 4, 1)), (11, (.invokestatic 93, 3)), (14, (.ifCond .ne 5, 3)), (17, (.iconst (-1), 1)), (18, (.ireturn, 1)), (19, (.lconst 1, 1)), (20, (.iconst 3, 1)), (21, (.iload_n 2, 1)), (22, (.invokestatic 249, 3)), (25, (.lstore_n 3, 1)), (26, (.lconst 1, 1)), (27, (.bipush 10, 2)), (29, (.iload_n 2, 1)), (30, (.invokestatic 249, 3)), (33, (.lload_n 3, 1)), (34, (.lsub, 1)), (35, (.lstore 5, 2)), (37, (.iconst 0, 1)), (38, (.istore 7, 2)), (40, (.iload 7, 2)), (42, (.sipush 999, 3)), (45, (.if_icmp .gt 27, 3)), (48, (.aload_n 0, 1)), (49, (.iload_n 1, 1)), (50, (.invokevirtual 183, 3)), (53, (.i2l, 1)), (54, (.lload_n 3, 1)), (55, (.lmul, 1)), (56, (.iload 7, 2)), (58, (.i2l, 1)), (59, (.lload 5, 2)), (61, (.lmul, 1)), (62, (.lcmp, 1)), (63, (.ifCond .le 9, 3)), (66, (.iinc 7 1, 3)), (69, (.goto (-29), 3)), (72, (.iload 7, 2)), (74, (.sipush 999, 3)), (77, (.if_icmp .gt 8, 3)), (80, (.iload 7, 2)), (82, (.goto 5, 3)), (85, (.bipush (-4), 2)), (87, (.ireturn, 1))]
theorem k_Z_fine : i_Z_fine.all (fun q => decide (decode b_Z_fine q.1 = .ok q.2)) = true := by decide +kernel

set_option maxHeartbeats 1000000 in
set_option maxRecDepth 20000 in
theorem c_Z_fine (l : Launch) (G : GE) (σ : Wd) (π : PL) (x : ST) (us ks : List ST) (lk : List (Int × (Int × Int))) (tx : List Int) (j : Int) (hC : MR σ π x us ks lk tx) (hV : VK π x us ks j) (hj : j ≤ 100) (t n : Int) (ht : inR t) (hn : inR n) : Ct l G y_Z_fine b_Z_fine 8 (some (.int)) 2 43 [vR 128, vI t, vI n] σ (Dt (some (vI (o_fine π x t n))) σ) := by
  refine Ct.of cm_Z_fine (Nat.le_of_ble_eq_true rfl) ?_
  intro X hXl hXG hXN hRm C E
  subst hXl; subst hXG
  have ⟨ht_1, ht_2⟩ := ht
  have ⟨hn_1, hn_2⟩ := hn
  show V X 0 [some (vR 128), some (vI t), some (vI n), none, none, none, none, none] [] σ
  refine V_R (fun hR => ?_)
  obtain ⟨hπ, hx, hU, hK, hl, hT⟩ := id hC
  obtain ⟨ok, xk, usk, ksk, ks2⟩ := id hV
  have hπ0 := hπ
  obtain ⟨e0, e1, e2, e3, eT, eX⟩ := hπ
  have ⟨k1, k2, k3, k4, k5, k6, kT, kX⟩ := ok
  have hx0 := hx
  obtain ⟨f0, f1, fQ, fT⟩ := hx
  have ⟨x1, x2, x3, x4, xQ, xT⟩ := xk
  refine V_aload_n (pc := 0) C (dk k_Z_fine 0 rfl) rfl ?_
  refine V_iload_n (pc := 1) C (dk k_Z_fine 1 rfl) rfl ?_
  refine V_callV (pc := 2) C (dk k_Z_fine 2 rfl) lk_Z_180 cm_Z_isThing vm_Z_isThing (c_Z_isThing _ _ _ π t hπ0 ok ht) kq_128 rfl rfl rfl (Nat.le_of_ble_eq_true rfl) (Rm.mono hRm (by decide) (by decide)) ?_
  refine V_ifeqB (pc := 5) C (dk k_Z_fine 3 rfl) 17 rfl (fun h1 => ?_) (fun h1 => ?_)
  · skip
    refine V_iconst (pc := 17) C (dk k_Z_fine 9 rfl) rfl ?_
    refine V_iret (pc := 18) C E (dk k_Z_fine 10 rfl) ?_
    exact ⟨by unfold o_fine; rw [if_neg (by omega)], rfl⟩
  · skip
    refine V_iload_n (pc := 8) C (dk k_Z_fine 4 rfl) rfl ?_
    refine V_iconst (pc := 9) C (dk k_Z_fine 5 rfl) rfl ?_
    refine V_iconst (pc := 10) C (dk k_Z_fine 6 rfl) rfl ?_
    refine V_callS (pc := 11) C (dk k_Z_fine 7 rfl) lk_Z_93 cm_Z_in sm_Z_in (c_Z_in _ _ _ n 1 4 hn ⟨by decide, by decide⟩ ⟨by decide, by decide⟩) rfl rfl (Nat.le_of_ble_eq_true rfl) (Rm.mono hRm (by decide) (by decide)) ?_
    refine V_ifneB (pc := 14) C (dk k_Z_fine 8 rfl) 19 rfl (fun h2 => ?_) (fun h2 => ?_)
    · skip
      have ⟨b1, b2, b3, b4⟩ := fin_b (l := n) (by omega) (by omega)
      have ⟨c1, c2⟩ := prc_b ok xk (t := t) (by omega) (by omega)
      have m0 : 0 ≤ prc π x t * fin_m n := Int.mul_nonneg c1 (by omega)
      have m1 : prc π x t * fin_m n ≤ 891 * 81 := Int.mul_le_mul c2 b2 (by omega) (by omega)
      refine V_lconst (pc := 19) (n' := 1) C (dk k_Z_fine 11 rfl) rfl ?_
      refine V_iconst (pc := 20) C (dk k_Z_fine 12 rfl) rfl ?_
      refine V_iload_n (pc := 21) C (dk k_Z_fine 13 rfl) rfl ?_
      refine V_callS (pc := 22) C (dk k_Z_fine 14 rfl) lk_Z_249 cm_Z_times sm_Z_times (c_Z_times _ _ _ (1) 3 n ⟨by decide, by decide⟩ (by omega) (by omega)) rfl rfl (Nat.le_of_ble_eq_true rfl) (Rm.mono hRm (by decide) (by decide)) ?_
      refine V_lstore_n (pc := 25) C (dk k_Z_fine 15 rfl) (by rw [hXN]; decide) ?_
      dsimp only [lst, lstL, lz, kill, Fin.val, Nat.reduceAdd]
      refine V_lconst (pc := 26) (n' := 1) C (dk k_Z_fine 16 rfl) rfl ?_
      refine V_bipush (pc := 27) (n' := 10) C (dk k_Z_fine 17 rfl) rfl ?_
      refine V_iload_n (pc := 29) C (dk k_Z_fine 18 rfl) rfl ?_
      refine V_callS (pc := 30) C (dk k_Z_fine 19 rfl) lk_Z_249 cm_Z_times sm_Z_times (c_Z_times _ _ _ (1) 10 n ⟨by decide, by decide⟩ (by omega) (by omega)) rfl rfl (Nat.le_of_ble_eq_true rfl) (Rm.mono hRm (by decide) (by decide)) ?_
      refine V_lload_n (pc := 33) C (dk k_Z_fine 20 rfl) rfl ?_
      refine V_lsub (pc := 34) C (dk k_Z_fine 21 rfl) ?_
      refine V_lstore (pc := 35) C (dk k_Z_fine 22 rfl) (by rw [hXN]; decide) ?_
      dsimp only [lst, lstL, lz, kill, Fin.val, Nat.reduceAdd]
      rw [Int.one_mul, Int.one_mul]
      show V X _ [some (vR 128), some (vI t), some (vI n), some (vL (fin_m n)), none, some (vL (fin_d n)), none, none] _ _
      refine V_iconst (pc := 37) C (dk k_Z_fine 23 rfl) rfl ?_
      refine V_istore (pc := 38) C (dk k_Z_fine 24 rfl) (by rw [hXN]; decide) ?_
      dsimp only [lst, lstL, lz, kill, Fin.val, Nat.reduceAdd]
      refine V_eq (V_loop (fun f : Nat => f ≤ 1000 ∧ (f : Int) ≤ (prc π x t * fin_m n + fin_d n - 1) / fin_d n) (fun f => [some (vR 128), some (vI t), some (vI n), some (vL (fin_m n)), none, some (vL (fin_d n)), none, some (vI (f : Int))]) (fun _ => σ) (fun f => 1000 - f) (fun f hf ih => ?_) 0 ⟨by decide, Int.ediv_nonneg (by omega) (by omega)⟩) rfl rfl rfl
      obtain ⟨hf0, hf1⟩ := hf
      have hfq := fin_q (A := prc π x t * fin_m n) (d := fin_d n) (f := (f : Int)) (by omega)
      have fd0 : 0 ≤ (f : Int) * fin_d n := Int.mul_nonneg (by omega) (by omega)
      have fd1 : (f : Int) * fin_d n ≤ 1000 * 9919 := Int.mul_le_mul (by omega) b4 (by omega) (by omega)
      refine V_iload (pc := 40) C (dk k_Z_fine 25 rfl) rfl ?_
      refine V_sipush (pc := 42) (n' := 999) C (dk k_Z_fine 26 rfl) rfl ?_
      refine V_icmpgt (pc := 45) C (dk k_Z_fine 27 rfl) 72 rfl (by first | exact hR _ _ | with_reducible assumption | exact ⟨by omega, by omega⟩) (by first | exact hR _ _ | with_reducible assumption | exact ⟨by omega, by omega⟩) (fun h3 => ?_) (fun h3 => ?_)
      · skip
        refine V_iload (pc := 72) C (dk k_Z_fine 42 rfl) rfl ?_
        refine V_sipush (pc := 74) (n' := 999) C (dk k_Z_fine 43 rfl) rfl ?_
        refine V_icmpgt (pc := 77) C (dk k_Z_fine 44 rfl) 85 rfl (by first | exact hR _ _ | with_reducible assumption | exact ⟨by omega, by omega⟩) (by first | exact hR _ _ | with_reducible assumption | exact ⟨by omega, by omega⟩) (fun h4 => ?_) (fun h4 => ?_)
        · skip
          refine V_bipush (pc := 85) (n' := (-4)) C (dk k_Z_fine 47 rfl) rfl ?_
          refine V_iret (pc := 87) C E (dk k_Z_fine 48 rfl) ?_
          first | (exfalso; omega) | exact ⟨by unfold o_fine; rw [if_pos (by omega), if_neg (by omega)], rfl⟩ | exact ⟨congrArg some (congrArg Sum.inl (by unfold o_fine; rw [if_pos (by omega), if_pos (by omega)]; omega)), rfl⟩
        · skip
          refine V_iload (pc := 80) C (dk k_Z_fine 45 rfl) rfl ?_
          refine V_goto (pc := 82) C (dk k_Z_fine 46 rfl) 87 rfl ?_
          refine V_iret (pc := 87) C E (dk k_Z_fine 48 rfl) ?_
          first | (exfalso; omega) | exact ⟨by unfold o_fine; rw [if_pos (by omega), if_neg (by omega)], rfl⟩ | exact ⟨congrArg some (congrArg Sum.inl (by unfold o_fine; rw [if_pos (by omega), if_pos (by omega)]; omega)), rfl⟩
      · skip
        refine V_aload_n (pc := 48) C (dk k_Z_fine 28 rfl) rfl ?_
        refine V_iload_n (pc := 49) C (dk k_Z_fine 29 rfl) rfl ?_
        refine V_callV (pc := 50) C (dk k_Z_fine 30 rfl) lk_Z_183 cm_Z_price vm_Z_price (c_Z_price _ _ _ π x j t hπ0 ok hx0 xk (by omega) (by omega) (by omega)) kq_128 rfl rfl rfl (Nat.le_of_ble_eq_true rfl) (Rm.mono hRm (by decide) (by decide)) ?_
        refine V_i2l (pc := 53) C (dk k_Z_fine 31 rfl) (by first | exact hR _ _ | with_reducible assumption | exact ⟨by omega, by omega⟩) ?_
        refine V_lload_n (pc := 54) C (dk k_Z_fine 32 rfl) rfl ?_
        refine V_lmul (pc := 55) C (dk k_Z_fine 33 rfl) ?_
        refine V_iload (pc := 56) C (dk k_Z_fine 34 rfl) rfl ?_
        refine V_i2l (pc := 58) C (dk k_Z_fine 35 rfl) (by first | exact hR _ _ | with_reducible assumption | exact ⟨by omega, by omega⟩) ?_
        refine V_lload (pc := 59) C (dk k_Z_fine 36 rfl) rfl ?_
        refine V_lmul (pc := 61) C (dk k_Z_fine 37 rfl) ?_
        refine V_lcmp (pc := 62) C (dk k_Z_fine 38 rfl) ⟨by omega, by omega⟩ ⟨by omega, by omega⟩ ?_
        refine V_ifleC (pc := 63) C (dk k_Z_fine 39 rfl) 72 rfl  (fun h5 => ?_) (fun h5 => ?_)
        · skip
          refine V_iload (pc := 72) C (dk k_Z_fine 42 rfl) rfl ?_
          refine V_sipush (pc := 74) (n' := 999) C (dk k_Z_fine 43 rfl) rfl ?_
          refine V_icmpgt (pc := 77) C (dk k_Z_fine 44 rfl) 85 rfl (by first | exact hR _ _ | with_reducible assumption | exact ⟨by omega, by omega⟩) (by first | exact hR _ _ | with_reducible assumption | exact ⟨by omega, by omega⟩) (fun h6 => ?_) (fun h6 => ?_)
          · skip
            refine V_bipush (pc := 85) (n' := (-4)) C (dk k_Z_fine 47 rfl) rfl ?_
            refine V_iret (pc := 87) C E (dk k_Z_fine 48 rfl) ?_
            first | (exfalso; omega) | exact ⟨by unfold o_fine; rw [if_pos (by omega), if_neg (by omega)], rfl⟩ | exact ⟨congrArg some (congrArg Sum.inl (by unfold o_fine; rw [if_pos (by omega), if_pos (by omega)]; omega)), rfl⟩
          · skip
            refine V_iload (pc := 80) C (dk k_Z_fine 45 rfl) rfl ?_
            refine V_goto (pc := 82) C (dk k_Z_fine 46 rfl) 87 rfl ?_
            refine V_iret (pc := 87) C E (dk k_Z_fine 48 rfl) ?_
            first | (exfalso; omega) | exact ⟨by unfold o_fine; rw [if_pos (by omega), if_neg (by omega)], rfl⟩ | exact ⟨congrArg some (congrArg Sum.inl (by unfold o_fine; rw [if_pos (by omega), if_pos (by omega)]; omega)), rfl⟩
        · skip
          refine V_iinc (pc := 66) C (dk k_Z_fine 40 rfl) (by rw [hXN]; decide) rfl ?_
          dsimp only [lst, lstL, lz, kill, Fin.val, Nat.reduceAdd]
          refine V_goto (pc := 69) C (dk k_Z_fine 41 rfl) 40 rfl ?_
          exact ih (f + 1) ⟨by omega, by omega⟩ (by omega)
    · skip
      refine V_iconst (pc := 17) C (dk k_Z_fine 9 rfl) rfl ?_
      refine V_iret (pc := 18) C E (dk k_Z_fine 10 rfl) ?_
      exact ⟨by unfold o_fine; rw [if_neg (by omega)], rfl⟩
