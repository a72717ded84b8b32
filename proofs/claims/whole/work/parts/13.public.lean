/-- as STok, the day up to e further on -/
def STd (π : PL) (x : ST) (j e : Int) : Prop := 0 ≤ sD x ∧ sD x ≤ 24 * j + e ∧ 0 ≤ sM x ∧ sM x ≤ 99 + 900 * j ∧ (∀ q : Int, 0 ≤ q → q < pP π → 0 ≤ sG x q ∧ sG x q ≤ 99 + 900 * j ∧ 0 ≤ sR x q ∧ sR x q ≤ 160 * sD x) ∧ (∀ t : Int, 0 ≤ t → t < pN π → 0 ≤ sN x t ∧ sN x t ≤ 99 ∧ 0 ≤ sP x t ∧ sP x t ≤ 2 ∧ (sP x t = 2 ↔ sN x t = 0))
theorem STok.d {π : PL} {x : ST} {j : Int} (h : STok π x j) : STd π x j 0 := by
  obtain ⟨a, b, c, d, e, f⟩ := h
  exact ⟨a, by omega, c, d, e, f⟩
theorem STd.ok {π : PL} {x : ST} {j e i : Int} (h : STd π x j e) (hi : 24 * j + e ≤ 24 * i) (hj : j ≤ i) : STok π x i := by
  obtain ⟨a, b, c, d, e, f⟩ := h
  exact ⟨a, by omega, c, by omega, fun q h0 h1 => by have := e q h0 h1; omega, f⟩
theorem STok.up {π : PL} {x : ST} {j i : Int} (h : STok π x j) (hj : j ≤ i) : STok π x i := h.d.ok (by omega) hj
theorem day_ok {π : PL} {x : ST} {j e : Int} (ok : PLok π) (h : STd π x j e) : STd π (dayX π x) j (e + 1) := by
  obtain ⟨h1, h2, h3, h4, hQ, hT⟩ := h
  have xk : STok π x (j + (if 0 ≤ e then e else 0)) := by
    refine ⟨h1, ?_, h3, ?_, fun q a b => ?_, hT⟩
    · split <;> omega
    · split <;> omega
    · have := hQ q a b; split <;> omega
  refine ⟨?_, ?_, h3, h4, fun q a b => ?_, fun t a b => ?_⟩
  · show 0 ≤ sD x + 1; omega
  · show sD x + 1 ≤ _; omega
  · obtain ⟨g1, g2, g3, g4⟩ := hQ q a b
    have ⟨n0, n1⟩ := nxR_b ok xk a b (Nat.le_refl _)
    refine ⟨g1, g2, n0, ?_⟩
    show nxR π x q (pN π) ≤ 160 * (sD x + 1)
    have := ok.2.2.1
    omega
  · obtain ⟨g1, g2, g3, g4, g5⟩ := hT t a b
    have ⟨n0, n1⟩ := nx_b (k := pK π t) (d := sD x) g1 g2
    show 0 ≤ nxN π x t ∧ nxN π x t ≤ 99 ∧ 0 ≤ nxP π x t ∧ nxP π x t ≤ 2 ∧ (nxP π x t = 2 ↔ nxN π x t = 0)
    unfold nxN nxP
    by_cases hp : sP x t = 1
    · rw [if_pos hp, if_pos hp]
      by_cases hz : nx (pK π t) (sN x t) (sD x) = 0
      · rw [if_pos hz]; omega
      · rw [if_neg hz]; omega
    · rw [if_neg hp, if_neg hp]; omega
theorem days_ok {π : PL} {x : ST} {j : Int} (ok : PLok π) (h : STok π x j) : ∀ i : Nat, STd π (daysX π x i) j i
  | 0 => h.d
  | i + 1 => by
    have := day_ok ok (days_ok ok h i)
    exact this

def i_F_undo : List (Nat × (Instr × Nat)) := [(0, (.aload_n 0, 1)), (1, (.getfield 46, 3)), (4, (.aload_n 0, 1)), (5, (.getfield 36, 3)), (8, (.invokevirtual 178, 3)), (11, (.ifCond .eq 13, 3)), (14, (.aload_n 0, 1)), (15, (.getfield 46, 3)), (18, (.getfield 182, 3)), (21, (.goto 5, 3)), (24, (.bipush (-2), 2)), (26, (.ireturn, 1))]
theorem k_F_undo : i_F_undo.all (fun q => decide (decode b_F_undo q.1 = .ok q.2)) = true := by decide +kernel

set_option maxHeartbeats 1000000 in
set_option maxRecDepth 20000 in
theorem c_F_undo (l : Launch) (G : GE) (σ : Wd) (pl sp : Nat) (π : PL) (x : ST) (y : ST) (us ks : List ST) (lk : List (Int × (Int × Int))) (tx : List Int) (j : Int) (hC : CR σ pl sp π x (y :: us) ks lk tx) (hV : VK π x (y :: us) ks j) (hj : j ≤ 100) : Ct l G y_F_undo b_F_undo 1 (some (.int)) 4 88 [vR 0] σ (Rt (some (vI us.length)) (fun σ' => CR σ' pl sp π y us ks lk tx ∧ Fc σ σ')) := by
  refine Ct.of cm_F_undo (Nat.le_of_ble_eq_true rfl) ?_
  intro X hXl hXG hXN hRm C E
  subst hXl; subst hXG
  show V X 0 [some (vR 0)] [] σ
  refine V_R (fun hR => ?_)
  obtain ⟨hF, hsp0, hsp, hne, hx, hU, hK, hl, hT⟩ := id hC
  obtain ⟨ok, xk, usk, ksk, ks2⟩ := id hV
  have hF0 := hF
  obtain ⟨hm_pl, hπ⟩ := hF
  have hπ0 := hπ
  obtain ⟨hpl, e0, e2, e7, e10, eT, eX⟩ := hπ
  obtain ⟨hpl_1, hpl_2, hpl_3, hpl_4, hpl_5, hpl_6⟩ := kd_P hpl
  have ⟨k1, k2, k3, k4, k5, k6, kT, kX⟩ := ok
  have hx0 := hx
  obtain ⟨hs, f0, f1, fQ, fT⟩ := hx
  simp only [Nat.reduceAdd] at fQ fT
  have ⟨x1, x2, x3, x4, xQ, xT⟩ := xk
  have p512 := kd5 hpl
  have s512 := kd5 hsp
  refine V_aload_n (pc := 0) C (dk k_F_undo 0 rfl) rfl ?_
  refine V_getr (pc := 1) (o2 := 29) C (dk k_F_undo 1 rfl) fl_F_46 kq_0 (by decide) rfl (by decide) rfl ?_
  refine V_aload_n (pc := 4) C (dk k_F_undo 2 rfl) rfl ?_
  refine V_getr (pc := 5) (o2 := 19) C (dk k_F_undo 3 rfl) fl_F_36 kq_0 (by decide) rfl (by decide) rfl ?_
  refine V_callVr (pc := 8) C (dk k_F_undo 4 rfl) lk_F_178 cm_M_popInto vm_M_popInto (c_M_popInto _ _ _ 29 19 π y us ok hU hs (by omega)) kq_29 rfl rfl rfl (Nat.le_of_ble_eq_true rfl) (Rm.mono hRm (by decide) (by decide)) (fun τ1 hq1 => ?_)
  refine V_R (fun hR => ?_)
  obtain ⟨qU, qx, qf⟩ := hq1
  have f : ∀ k, ¬ (19 ≤ k ∧ k < 24) → ¬ (29 ≤ k ∧ k < 71) → τ1 k = σ k := fun k a b => qf k (by omega) (by omega)
  refine V_ifeq (pc := 11) C (dk k_F_undo 5 rfl) 24 rfl (by first | exact hR _ _ | with_reducible assumption | exact ⟨by omega, by omega⟩) (fun h1 => ?_) (fun h1 => ?_)
  · skip
    exfalso; omega
  · skip
    refine V_aload_n (pc := 14) C (dk k_F_undo 6 rfl) rfl ?_
    refine V_getr (pc := 15) (o2 := 29) C (dk k_F_undo 7 rfl) fl_F_46 kq_0 (by decide) rfl (by decide) rfl ?_
    refine V_geti (pc := 18) (ji := 2) C (dk k_F_undo 8 rfl) fl_F_182 kq_29 (by decide) rfl rfl ?_
    refine V_goto (pc := 21) C (dk k_F_undo 9 rfl) 26 rfl ?_
    refine V_iret (pc := 26) C E (dk k_F_undo 11 rfl) ?_
    exact ⟨by rw [qU.2.2.2.1], hC.mk2 (fun k a => f k (by omega) (by omega)) qx qU (hK.fr (fun k a b => f k (by omega) (by omega))) (hl.fr (fun k a b => f k (by omega) (by omega))) (hT.fr (f 1 (by omega) (by omega)) (f 2 (by omega) (by omega))), fun k a => f k (by omega) (by omega)⟩

set_option maxHeartbeats 1000000 in
set_option maxRecDepth 20000 in
theorem c_F_undo0 (l : Launch) (G : GE) (σ : Wd) (pl sp : Nat) (π : PL) (x : ST) (ks : List ST) (lk : List (Int × (Int × Int))) (tx : List Int) (j : Int) (hC : CR σ pl sp π x [] ks lk tx) (hV : VK π x [] ks j) (hj : j ≤ 100) : Ct l G y_F_undo b_F_undo 1 (some (.int)) 4 88 [vR 0] σ (Dt (some (vI (-2))) σ) := by
  refine Ct.of cm_F_undo (Nat.le_of_ble_eq_true rfl) ?_
  intro X hXl hXG hXN hRm C E
  subst hXl; subst hXG
  show V X 0 [some (vR 0)] [] σ
  refine V_R (fun hR => ?_)
  obtain ⟨hF, hsp0, hsp, hne, hx, hU, hK, hl, hT⟩ := id hC
  obtain ⟨ok, xk, usk, ksk, ks2⟩ := id hV
  have hF0 := hF
  obtain ⟨hm_pl, hπ⟩ := hF
  have hπ0 := hπ
  obtain ⟨hpl, e0, e2, e7, e10, eT, eX⟩ := hπ
  obtain ⟨hpl_1, hpl_2, hpl_3, hpl_4, hpl_5, hpl_6⟩ := kd_P hpl
  have ⟨k1, k2, k3, k4, k5, k6, kT, kX⟩ := ok
  have hx0 := hx
  obtain ⟨hs, f0, f1, fQ, fT⟩ := hx
  simp only [Nat.reduceAdd] at fQ fT
  have ⟨x1, x2, x3, x4, xQ, xT⟩ := xk
  have p512 := kd5 hpl
  have s512 := kd5 hsp
  refine V_aload_n (pc := 0) C (dk k_F_undo 0 rfl) rfl ?_
  refine V_getr (pc := 1) (o2 := 29) C (dk k_F_undo 1 rfl) fl_F_46 kq_0 (by decide) rfl (by decide) rfl ?_
  refine V_aload_n (pc := 4) C (dk k_F_undo 2 rfl) rfl ?_
  refine V_getr (pc := 5) (o2 := 19) C (dk k_F_undo 3 rfl) fl_F_36 kq_0 (by decide) rfl (by decide) rfl ?_
  refine V_callV (pc := 8) C (dk k_F_undo 4 rfl) lk_F_178 cm_M_popInto vm_M_popInto (c_M_popInto0 _ _ _ 29 19 π hU) kq_29 rfl rfl rfl (Nat.le_of_ble_eq_true rfl) (Rm.mono hRm (by decide) (by decide)) ?_
  refine V_ifeq (pc := 11) C (dk k_F_undo 5 rfl) 24 rfl (by first | exact hR _ _ | with_reducible assumption | exact ⟨by omega, by omega⟩) (fun h1 => ?_) (fun h1 => ?_)
  · skip
    refine V_bipush (pc := 24) (n' := (-2)) C (dk k_F_undo 10 rfl) rfl ?_
    refine V_iret (pc := 26) C E (dk k_F_undo 11 rfl) ?_
    first | exact ⟨rfl, rfl⟩ | (refine ⟨?_, rfl⟩; first | (rw [if_pos (by omega)]; done) | (rw [if_neg (by omega)]; done))
  · skip
    exfalso; omega

def i_F_keep : List (Nat × (Instr × Nat)) := [(0, (.aload_n 0, 1)), (1, (.getfield 50, 3)), (4, (.getfield 182, 3)), (7, (.iconst 2, 1)), (8, (.if_icmp .lt 6, 3)), (11, (.bipush (-3), 2)), (13, (.ireturn, 1)), (14, (.aload_n 0, 1)), (15, (.getfield 50, 3)), (18, (.aload_n 0, 1)), (19, (.getfield 36, 3)), (22, (.invokevirtual 160, 3)), (25, (.aload_n 0, 1)), (26, (.getfield 50, 3)), (29, (.getfield 182, 3)), (32, (.ireturn, 1))]
theorem k_F_keep : i_F_keep.all (fun q => decide (decode b_F_keep q.1 = .ok q.2)) = true := by decide +kernel

set_option maxHeartbeats 1000000 in
set_option maxRecDepth 20000 in
theorem c_F_keep (l : Launch) (G : GE) (σ : Wd) (pl sp : Nat) (π : PL) (x : ST) (us ks : List ST) (lk : List (Int × (Int × Int))) (tx : List Int) (j : Int) (hC : CR σ pl sp π x us ks lk tx) (hV : VK π x us ks j) (hj : j ≤ 100) : Ct l G y_F_keep b_F_keep 1 (some (.int)) 4 87 [vR 0] σ (Rt (some (vI (o_keep x ks).1)) (fun σ' => CR σ' pl sp π x us (o_keep x ks).2 lk tx ∧ Fc σ σ')) := by
  refine Ct.of cm_F_keep (Nat.le_of_ble_eq_true rfl) ?_
  intro X hXl hXG hXN hRm C E
  subst hXl; subst hXG
  show V X 0 [some (vR 0)] [] σ
  refine V_R (fun hR => ?_)
  obtain ⟨hF, hsp0, hsp, hne, hx, hU, hK, hl, hT⟩ := id hC
  obtain ⟨ok, xk, usk, ksk, ks2⟩ := id hV
  have hF0 := hF
  obtain ⟨hm_pl, hπ⟩ := hF
  have hπ0 := hπ
  obtain ⟨hpl, e0, e2, e7, e10, eT, eX⟩ := hπ
  obtain ⟨hpl_1, hpl_2, hpl_3, hpl_4, hpl_5, hpl_6⟩ := kd_P hpl
  have ⟨k1, k2, k3, k4, k5, k6, kT, kX⟩ := ok
  have hx0 := hx
  obtain ⟨hs, f0, f1, fQ, fT⟩ := hx
  simp only [Nat.reduceAdd] at fQ fT
  have ⟨x1, x2, x3, x4, xQ, xT⟩ := xk
  have p512 := kd5 hpl
  have s512 := kd5 hsp
  obtain ⟨-, -, -, w3, -, -⟩ := id hK
  refine V_aload_n (pc := 0) C (dk k_F_keep 0 rfl) rfl ?_
  refine V_getr (pc := 1) (o2 := 71) C (dk k_F_keep 1 rfl) fl_F_50 kq_0 (by decide) rfl (by decide) rfl ?_
  refine V_geti (pc := 4) (ji := 2) C (dk k_F_keep 2 rfl) fl_F_182 kq_71 (by decide) rfl rfl ?_
  refine V_iconst (pc := 7) C (dk k_F_keep 3 rfl) rfl ?_
  refine V_icmplt (pc := 8) C (dk k_F_keep 4 rfl) 14 rfl (by first | exact hR _ _ | with_reducible assumption | exact ⟨by omega, by omega⟩) (by first | exact hR _ _ | with_reducible assumption | exact ⟨by omega, by omega⟩) (fun h1 => ?_) (fun h1 => ?_)
  · skip
    refine V_aload_n (pc := 14) C (dk k_F_keep 7 rfl) rfl ?_
    refine V_getr (pc := 15) (o2 := 71) C (dk k_F_keep 8 rfl) fl_F_50 kq_0 (by decide) rfl (by decide) rfl ?_
    refine V_aload_n (pc := 18) C (dk k_F_keep 9 rfl) rfl ?_
    refine V_getr (pc := 19) (o2 := 19) C (dk k_F_keep 10 rfl) fl_F_36 kq_0 (by decide) rfl (by decide) rfl ?_
    refine V_callV0r (pc := 22) C (dk k_F_keep 11 rfl) lk_F_160 cm_M_push vm_M_push (c_M_push _ _ _ 71 19 π x ks ok hK hx0 (by omega)) kq_71 rfl rfl rfl (Nat.le_of_ble_eq_true rfl) (Rm.mono hRm (by decide) (by decide)) (fun τ1 hq1 => ?_)
    refine V_R (fun hR => ?_)
    obtain ⟨qK, qf⟩ := hq1
    have f : ∀ k, (k < 71 ∨ 113 ≤ k) → τ1 k = σ k := fun k a => qf k (by omega)
    rw [List.take_of_length_le (by rw [List.length_cons]; omega)] at qK
    refine V_aload_n (pc := 25) C (dk k_F_keep 12 rfl) rfl ?_
    refine V_getr (pc := 26) (o2 := 71) C (dk k_F_keep 13 rfl) fl_F_50 kq_0 (by decide) rfl (by decide) rfl ?_
    refine V_geti (pc := 29) (ji := 2) C (dk k_F_keep 14 rfl) fl_F_182 kq_71 (by decide) rfl rfl ?_
    refine V_iret (pc := 32) C E (dk k_F_keep 15 rfl) ?_
    rw [show o_keep x ks = ((ks.length : Int) + 1, x :: ks) from if_neg (by omega)]
    exact ⟨by rw [qK.2.2.2.1, List.length_cons]; rfl, hC.mk2 (fun k a => f k (by omega)) (hx0.fr (fun k a b => f k (by omega))) (hU.fr (fun k a b => f k (by omega))) qK (hl.fr (fun k a b => f k (by omega))) (hT.fr (f 1 (by omega)) (f 2 (by omega))), fun k a => f k (by omega)⟩
  · skip
    refine V_bipush (pc := 11) (n' := (-3)) C (dk k_F_keep 5 rfl) rfl ?_
    refine V_iret (pc := 13) C E (dk k_F_keep 6 rfl) ?_
    rw [show o_keep x ks = (-3, ks) from if_pos (by omega)]
    exact ⟨rfl, hC, Fc.rf σ⟩

def i_F_back : List (Nat × (Instr × Nat)) := [(0, (.aload_n 0, 1)), (1, (.getfield 50, 3)), (4, (.aload_n 0, 1)), (5, (.getfield 36, 3)), (8, (.invokevirtual 178, 3)), (11, (.ifCond .ne 6, 3)), (14, (.bipush (-2), 2)), (16, (.ireturn, 1)), (17, (.aload_n 0, 1)), (18, (.getfield 46, 3)), (21, (.iconst 0, 1)), (22, (.putfield 182, 3)), (25, (.aload_n 0, 1)), (26, (.getfield 50, 3)), (29, (.getfield 182, 3)), (32, (.ireturn, 1))]
theorem k_F_back : i_F_back.all (fun q => decide (decode b_F_back q.1 = .ok q.2)) = true := by decide +kernel

set_option maxHeartbeats 1000000 in
set_option maxRecDepth 20000 in
theorem c_F_back (l : Launch) (G : GE) (σ : Wd) (pl sp : Nat) (π : PL) (x : ST) (y : ST) (us ks : List ST) (lk : List (Int × (Int × Int))) (tx : List Int) (j : Int) (hC : CR σ pl sp π x us (y :: ks) lk tx) (hV : VK π x us (y :: ks) j) (hj : j ≤ 100) : Ct l G y_F_back b_F_back 1 (some (.int)) 4 88 [vR 0] σ (Rt (some (vI ks.length)) (fun σ' => CR σ' pl sp π y [] ks lk tx ∧ Fc σ σ')) := by
  refine Ct.of cm_F_back (Nat.le_of_ble_eq_true rfl) ?_
  intro X hXl hXG hXN hRm C E
  subst hXl; subst hXG
  show V X 0 [some (vR 0)] [] σ
  refine V_R (fun hR => ?_)
  obtain ⟨hF, hsp0, hsp, hne, hx, hU, hK, hl, hT⟩ := id hC
  obtain ⟨ok, xk, usk, ksk, ks2⟩ := id hV
  have hF0 := hF
  obtain ⟨hm_pl, hπ⟩ := hF
  have hπ0 := hπ
  obtain ⟨hpl, e0, e2, e7, e10, eT, eX⟩ := hπ
  obtain ⟨hpl_1, hpl_2, hpl_3, hpl_4, hpl_5, hpl_6⟩ := kd_P hpl
  have ⟨k1, k2, k3, k4, k5, k6, kT, kX⟩ := ok
  have hx0 := hx
  obtain ⟨hs, f0, f1, fQ, fT⟩ := hx
  simp only [Nat.reduceAdd] at fQ fT
  have ⟨x1, x2, x3, x4, xQ, xT⟩ := xk
  have p512 := kd5 hpl
  have s512 := kd5 hsp
  refine V_aload_n (pc := 0) C (dk k_F_back 0 rfl) rfl ?_
  refine V_getr (pc := 1) (o2 := 71) C (dk k_F_back 1 rfl) fl_F_50 kq_0 (by decide) rfl (by decide) rfl ?_
  refine V_aload_n (pc := 4) C (dk k_F_back 2 rfl) rfl ?_
  refine V_getr (pc := 5) (o2 := 19) C (dk k_F_back 3 rfl) fl_F_36 kq_0 (by decide) rfl (by decide) rfl ?_
  refine V_callVr (pc := 8) C (dk k_F_back 4 rfl) lk_F_178 cm_M_popInto vm_M_popInto (c_M_popInto _ _ _ 71 19 π y ks ok hK hs (by omega)) kq_71 rfl rfl rfl (Nat.le_of_ble_eq_true rfl) (Rm.mono hRm (by decide) (by decide)) (fun τ1 hq1 => ?_)
  refine V_R (fun hR => ?_)
  obtain ⟨qK, qx, qf⟩ := hq1
  have f : ∀ k, ¬ (19 ≤ k ∧ k < 24) → k ≠ 29 → ¬ (71 ≤ k ∧ k < 113) → up τ1 29 2 0 k = σ k := fun k a b c => by rw [up_row _ _ _ b]; exact qf k (by omega) (by omega)
  have e71 : up τ1 29 2 0 71 = τ1 71 := up_row _ _ _ (by decide)
  refine V_ifne (pc := 11) C (dk k_F_back 5 rfl) 17 rfl (by first | exact hR _ _ | with_reducible assumption | exact ⟨by omega, by omega⟩) (fun h1 => ?_) (fun h1 => ?_)
  · skip
    refine V_aload_n (pc := 17) C (dk k_F_back 8 rfl) rfl ?_
    refine V_getr (pc := 18) (o2 := 29) C (dk k_F_back 9 rfl) fl_F_46 kq_0 (by decide) rfl (by decide) rfl ?_
    refine V_iconst (pc := 21) C (dk k_F_back 10 rfl) rfl ?_
    refine V_puti (pc := 22) (ji := 2) C (dk k_F_back 11 rfl) fl_F_182 fw_4_2 kq_29 (by decide) rfl rfl R0 ?_
    refine V_R (fun hR => ?_)
    refine V_aload_n (pc := 25) C (dk k_F_back 12 rfl) rfl ?_
    refine V_getr (pc := 26) (o2 := 71) C (dk k_F_back 13 rfl) fl_F_50 kq_0 (by decide) rfl (by decide) rfl ?_
    refine V_geti (pc := 29) (ji := 2) C (dk k_F_back 14 rfl) fl_F_182 kq_71 (by decide) rfl rfl ?_
    refine V_iret (pc := 32) C E (dk k_F_back 15 rfl) ?_
    obtain ⟨u0, u1, u2, u3, u4, u5⟩ := hU
    have e29 : τ1 29 = σ 29 := qf 29 (by omega) (by omega)
    exact ⟨by rw [e71, qK.2.2.2.1], hC.mk2 (fun k a => f k (by omega) (by omega) (by omega)) (qx.fr (fun k a b => up_row _ _ _ (by omega))) ⟨u0, by rw [up_ne2 _ (by decide), e29]; exact u1, by rw [up_ne2 _ (by decide), e29]; exact u2, by rw [up_at]; rfl, by simp, fun k y h => by simp at h⟩ (qK.fr (fun k a b => up_row _ _ _ (by omega))) (hl.fr (fun k a b => f k (by omega) (by omega) (by omega))) (hT.fr (f 1 (by omega) (by omega) (by omega)) (f 2 (by omega) (by omega) (by omega))), fun k a => f k (by omega) (by omega) (by omega)⟩
  · skip
    exfalso; omega

set_option maxHeartbeats 1000000 in
set_option maxRecDepth 20000 in
theorem c_F_back0 (l : Launch) (G : GE) (σ : Wd) (pl sp : Nat) (π : PL) (x : ST) (us : List ST) (lk : List (Int × (Int × Int))) (tx : List Int) (j : Int) (hC : CR σ pl sp π x us [] lk tx) (hV : VK π x us [] j) (hj : j ≤ 100) : Ct l G y_F_back b_F_back 1 (some (.int)) 4 88 [vR 0] σ (Dt (some (vI (-2))) σ) := by
  refine Ct.of cm_F_back (Nat.le_of_ble_eq_true rfl) ?_
  intro X hXl hXG hXN hRm C E
  subst hXl; subst hXG
  show V X 0 [some (vR 0)] [] σ
  refine V_R (fun hR => ?_)
  obtain ⟨hF, hsp0, hsp, hne, hx, hU, hK, hl, hT⟩ := id hC
  obtain ⟨ok, xk, usk, ksk, ks2⟩ := id hV
  have hF0 := hF
  obtain ⟨hm_pl, hπ⟩ := hF
  have hπ0 := hπ
  obtain ⟨hpl, e0, e2, e7, e10, eT, eX⟩ := hπ
  obtain ⟨hpl_1, hpl_2, hpl_3, hpl_4, hpl_5, hpl_6⟩ := kd_P hpl
  have ⟨k1, k2, k3, k4, k5, k6, kT, kX⟩ := ok
  have hx0 := hx
  obtain ⟨hs, f0, f1, fQ, fT⟩ := hx
  simp only [Nat.reduceAdd] at fQ fT
  have ⟨x1, x2, x3, x4, xQ, xT⟩ := xk
  have p512 := kd5 hpl
  have s512 := kd5 hsp
  refine V_aload_n (pc := 0) C (dk k_F_back 0 rfl) rfl ?_
  refine V_getr (pc := 1) (o2 := 71) C (dk k_F_back 1 rfl) fl_F_50 kq_0 (by decide) rfl (by decide) rfl ?_
  refine V_aload_n (pc := 4) C (dk k_F_back 2 rfl) rfl ?_
  refine V_getr (pc := 5) (o2 := 19) C (dk k_F_back 3 rfl) fl_F_36 kq_0 (by decide) rfl (by decide) rfl ?_
  refine V_callV (pc := 8) C (dk k_F_back 4 rfl) lk_F_178 cm_M_popInto vm_M_popInto (c_M_popInto0 _ _ _ 71 19 π hK) kq_71 rfl rfl rfl (Nat.le_of_ble_eq_true rfl) (Rm.mono hRm (by decide) (by decide)) ?_
  refine V_ifne (pc := 11) C (dk k_F_back 5 rfl) 17 rfl (by first | exact hR _ _ | with_reducible assumption | exact ⟨by omega, by omega⟩) (fun h1 => ?_) (fun h1 => ?_)
  · skip
    exfalso; omega
  · skip
    refine V_bipush (pc := 14) (n' := (-2)) C (dk k_F_back 6 rfl) rfl ?_
    refine V_iret (pc := 16) C E (dk k_F_back 7 rfl) ?_
    first | exact ⟨rfl, rfl⟩ | (refine ⟨?_, rfl⟩; first | (rw [if_pos (by omega)]; done) | (rw [if_neg (by omega)]; done))

def i_F_pass : List (Nat × (Instr × Nat)) := [(0, (.iload_n 1, 1)), (1, (.iconst 1, 1)), (2, (.bipush 24, 2)), (4, (.invokestatic 98, 3)), (7, (.ifCond .ne 5, 3)), (10, (.iconst (-1), 1)), (11, (.ireturn, 1)), (12, (.aload_n 0, 1)), (13, (.getfield 46, 3)), (16, (.aload_n 0, 1)), (17, (.getfield 36, 3)), (20, (.invokevirtual 160, 3)), (23, (.iconst 0, 1)), (24, (.istore_n 2, 1)), (25, (.iload_n 2, 1)), (26, (.iload_n 1, 1)), (27, (.if_icmp .ge 20, 3)), (30, (.aload_n 0, 1)), (31, (.getfield 36, 3)), (34, (.aload_n 0, 1)), (35, (.getfield 26, 3)), (38, (.invokevirtual 174, 3)), (41, (.iinc 2 1, 3)), (44, (.goto (-19), 3)), (47, (.aload_n 0, 1)), (48, (.getfield 36, 3)), (51, (.getfield 149, 3)), (54, (.ireturn, 1))]
theorem k_F_pass : i_F_pass.all (fun q => decide (decode b_F_pass q.1 = .ok q.2)) = true := by decide +kernel

set_option maxHeartbeats 1000000 in
set_option maxRecDepth 20000 in
theorem c_F_pass (l : Launch) (G : GE) (σ : Wd) (pl sp : Nat) (π : PL) (x : ST) (us ks : List ST) (lk : List (Int × (Int × Int))) (tx : List Int) (j : Int) (hC : CR σ pl sp π x us ks lk tx) (hV : VK π x us ks j) (hj : j ≤ 100) (n : Int) (hn : inR n) : Ct l G y_F_pass b_F_pass 3 (some (.int)) 4 94 [vR 0, vI n] σ (Rt (some (vI (o_pass π x us n).1)) (fun σ' => CR σ' pl sp π (o_pass π x us n).2.1 (o_pass π x us n).2.2 ks lk tx ∧ Fc σ σ')) := by
  refine Ct.of cm_F_pass (Nat.le_of_ble_eq_true rfl) ?_
  intro X hXl hXG hXN hRm C E
  subst hXl; subst hXG
  have ⟨hn_1, hn_2⟩ := hn
  show V X 0 [some (vR 0), some (vI n), none] [] σ
  refine V_R (fun hR => ?_)
  obtain ⟨hF, hsp0, hsp, hne, hx, hU, hK, hl, hT⟩ := id hC
  obtain ⟨ok, xk, usk, ksk, ks2⟩ := id hV
  have hF0 := hF
  obtain ⟨hm_pl, hπ⟩ := hF
  have hπ0 := hπ
  obtain ⟨hpl, e0, e2, e7, e10, eT, eX⟩ := hπ
  obtain ⟨hpl_1, hpl_2, hpl_3, hpl_4, hpl_5, hpl_6⟩ := kd_P hpl
  have ⟨k1, k2, k3, k4, k5, k6, kT, kX⟩ := ok
  have hx0 := hx
  obtain ⟨hs, f0, f1, fQ, fT⟩ := hx
  simp only [Nat.reduceAdd] at fQ fT
  have ⟨x1, x2, x3, x4, xQ, xT⟩ := xk
  have p512 := kd5 hpl
  have s512 := kd5 hsp
  refine V_iload_n (pc := 0) C (dk k_F_pass 0 rfl) rfl ?_
  refine V_iconst (pc := 1) C (dk k_F_pass 1 rfl) rfl ?_
  refine V_bipush (pc := 2) (n' := 24) C (dk k_F_pass 2 rfl) rfl ?_
  refine V_callS (pc := 4) C (dk k_F_pass 3 rfl) lk_F_98 cm_F_within sm_F_within (c_F_within _ _ _ n 1 24 hn ⟨by decide, by decide⟩ ⟨by decide, by decide⟩) rfl rfl (Nat.le_of_ble_eq_true rfl) (Rm.mono hRm (by decide) (by decide)) ?_
  refine V_ifneB (pc := 7) C (dk k_F_pass 4 rfl) 12 rfl (fun h1 => ?_) (fun h1 => ?_)
  · skip
    refine V_aload_n (pc := 12) C (dk k_F_pass 7 rfl) rfl ?_
    refine V_getr (pc := 13) (o2 := 29) C (dk k_F_pass 8 rfl) fl_F_46 kq_0 (by decide) rfl (by decide) rfl ?_
    refine V_aload_n (pc := 16) C (dk k_F_pass 9 rfl) rfl ?_
    refine V_getr (pc := 17) (o2 := 19) C (dk k_F_pass 10 rfl) fl_F_36 kq_0 (by decide) rfl (by decide) rfl ?_
    refine V_callV0r (pc := 20) C (dk k_F_pass 11 rfl) lk_F_160 cm_M_push vm_M_push (c_M_push _ _ _ 29 19 π x us ok hU hx0 (by omega)) kq_29 rfl rfl rfl (Nat.le_of_ble_eq_true rfl) (Rm.mono hRm (by decide) (by decide)) (fun τ1 hq1 => ?_)
    refine V_R (fun hR => ?_)
    have g : ∀ k, (k < 29 ∨ 71 ≤ k) → τ1 k = σ k := fun k a => hq1.2 k (by omega)
    refine V_iconst (pc := 23) C (dk k_F_pass 12 rfl) rfl ?_
    refine V_istore_n (pc := 24) C (dk k_F_pass 13 rfl) (by rw [hXN]; decide) ?_
    dsimp only [lst, lstL, lz, kill, Fin.val, Nat.reduceAdd]
    refine V_eq (V_loop (fun q : Nat × Wd => (q.1 : Int) ≤ n ∧ StR q.2 19 π (daysX π x q.1) ∧ Fr 19 5 τ1 q.2) (fun q => [some (vR 0), some (vI n), some (vI (q.1 : Int))]) (fun q => q.2) (fun q => n.toNat - q.1) (fun q hq ih => ?_) (0, τ1) ⟨by dsimp only; omega, hx0.fr (fun k a b => g k (by omega)), Fr.rf _ _ _⟩) rfl rfl rfl
    obtain ⟨i, τ⟩ := q
    obtain ⟨hi, tx1, tfr⟩ := hq
    dsimp only at hi tx1 tfr ih ⊢
    refine V_R (fun hR => ?_)
    refine V_iload_n (pc := 25) C (dk k_F_pass 14 rfl) rfl ?_
    refine V_iload_n (pc := 26) C (dk k_F_pass 15 rfl) rfl ?_
    refine V_icmpge (pc := 27) C (dk k_F_pass 16 rfl) 47 rfl (by first | exact hR _ _ | with_reducible assumption | exact ⟨by omega, by omega⟩) (by first | exact hR _ _ | with_reducible assumption | exact ⟨by omega, by omega⟩) (fun h2 => ?_) (fun h2 => ?_)
    · skip
      refine V_aload_n (pc := 47) C (dk k_F_pass 24 rfl) rfl ?_
      refine V_getr (pc := 48) (o2 := 19) C (dk k_F_pass 25 rfl) fl_F_36 kq_0 (by decide) rfl (by decide) rfl ?_
      refine V_geti (pc := 51) (ji := 0) C (dk k_F_pass 26 rfl) fl_F_149 kq_19 (by decide) rfl rfl ?_
      refine V_iret (pc := 54) C E (dk k_F_pass 27 rfl) ?_
      obtain rfl : n = i := by omega
      rw [show o_pass π x us (i : Int) = (sD (daysX π x i), (daysX π x i, (x :: us).take 8)) by unfold o_pass; rw [if_pos (by omega), Int.toNat_natCast]]
      have f : ∀ k, ¬ (19 ≤ k ∧ k < 24) → ¬ (29 ≤ k ∧ k < 71) → τ k = σ k := fun k a b => (tfr k (by omega)).trans (g k (by omega))
      exact ⟨by rw [tx1.2.1], hC.mk2 (fun k a => f k (by omega) (by omega)) tx1 (hq1.1.fr (fun k a b => tfr k (by omega))) (hK.fr (fun k a b => f k (by omega) (by omega))) (hl.fr (fun k a b => f k (by omega) (by omega))) (hT.fr (f 1 (by omega) (by omega)) (f 2 (by omega) (by omega))), fun k a => f k (by omega) (by omega)⟩
    · skip
      refine V_aload_n (pc := 30) C (dk k_F_pass 17 rfl) rfl ?_
      refine V_getr (pc := 31) (o2 := 19) C (dk k_F_pass 18 rfl) fl_F_36 kq_0 (by decide) rfl (by decide) rfl ?_
      refine V_aload_n (pc := 34) C (dk k_F_pass 19 rfl) rfl ?_
      refine V_getm (pc := 35) (o2 := pl) C (dk k_F_pass 20 rfl) fl_F_26 kq_0 (by decide) rfl (by rw [tfr 0 (by omega), g 0 (by omega)]; exact hm_pl) ?_
      refine V_callV0r (pc := 38) C (dk k_F_pass 21 rfl) lk_F_174 cm_S_passDay vm_S_passDay (c_S_passDay _ _ _ 19 pl π (daysX π x i) (j + 1) (hπ0.fr (fun k a b => by rw [tfr k (by omega)]; exact g k (by omega))) ok tx1 ((days_ok ok xk i).ok (by omega) (by omega)) (by omega)) kq_19 rfl rfl rfl (Nat.le_of_ble_eq_true rfl) (Rm.mono hRm (by decide) (by decide)) (fun τ2 hq2 => ?_)
      refine V_R (fun hR => ?_)
      refine V_iinc (pc := 41) C (dk k_F_pass 22 rfl) (by rw [hXN]; decide) rfl ?_
      dsimp only [lst, lstL, lz, kill, Fin.val, Nat.reduceAdd]
      refine V_goto (pc := 44) C (dk k_F_pass 23 rfl) 25 rfl ?_
      exact ih (i + 1, τ2) ⟨by dsimp only; omega, hq2.1, tfr.tr hq2.2⟩ (by dsimp only; omega)
  · skip
    refine V_iconst (pc := 10) C (dk k_F_pass 5 rfl) rfl ?_
    refine V_iret (pc := 11) C E (dk k_F_pass 6 rfl) ?_
    rw [show o_pass π x us n = (-1, (x, us)) from if_neg (by omega)]
    exact ⟨rfl, hC, Fc.rf σ⟩

theorem cellar_b {π : PL} {x : ST} {j : Int} (ok : PLok π) (xk : STok π x j) : 0 ≤ cellar π x ∧ cellar π x ≤ 792 := by
  have ⟨a, b⟩ := sm_b (fun t => if sP x t = 1 then sN x t else 0) 99 (by omega) (pN π) (fun t c d => by
    have := xk.2.2.2.2.2 t c d
    split <;> omega)
  have := ok.2.2.1
  unfold cellar
  omega

def i_F_heard : List (Nat × (Instr × Nat)) := [(0, (.iload_n 1, 1)), (1, (.iconst 1, 1)), (2, (.sipush 999, 3)), (5, (.invokestatic 98, 3)), (8, (.ifCond .ne 5, 3)), (11, (.iconst (-1), 1)), (12, (.ireturn, 1)), (13, (.aload_n 0, 1)), (14, (.getfield 40, 3)), (17, (.aload_n 0, 1)), (18, (.getfield 36, 3)), (21, (.invokevirtual 189, 3)), (24, (.iconst 0, 1)), (25, (.istore_n 2, 1)), (26, (.iload_n 2, 1)), (27, (.bipush 60, 2)), (29, (.if_icmp .gt 37, 3)), (32, (.aload_n 0, 1)), (33, (.getfield 40, 3)), (36, (.aload_n 0, 1)), (37, (.getfield 26, 3)), (40, (.invokevirtual 192, 3)), (43, (.iload_n 1, 1)), (44, (.if_icmp .lt 5, 3)), (47, (.iload_n 2, 1)), (48, (.ireturn, 1)), (49, (.aload_n 0, 1)), (50, (.getfield 40, 3)), (53, (.aload_n 0, 1)), (54, (.getfield 26, 3)), (57, (.invokevirtual 174, 3)), (60, (.iinc 2 1, 3)), (63, (.goto (-37), 3)), (66, (.bipush (-4), 2)), (68, (.ireturn, 1))]
theorem k_F_heard : i_F_heard.all (fun q => decide (decode b_F_heard q.1 = .ok q.2)) = true := by decide +kernel

set_option maxHeartbeats 1000000 in
set_option maxRecDepth 20000 in
theorem c_F_heard (l : Launch) (G : GE) (σ : Wd) (pl sp : Nat) (π : PL) (x : ST) (us ks : List ST) (lk : List (Int × (Int × Int))) (tx : List Int) (j : Int) (hC : CR σ pl sp π x us ks lk tx) (hV : VK π x us ks j) (hj : j ≤ 100) (h : Int) (hh : inR h) : Ct l G y_F_heard b_F_heard 3 (some (.int)) 4 94 [vR 0, vI h] σ (Rt (some (vI (o_heard π x h))) (fun σ' => CR σ' pl sp π x us ks lk tx ∧ Fc σ σ')) := by
  refine Ct.of cm_F_heard (Nat.le_of_ble_eq_true rfl) ?_
  intro X hXl hXG hXN hRm C E
  subst hXl; subst hXG
  have ⟨hh_1, hh_2⟩ := hh
  show V X 0 [some (vR 0), some (vI h), none] [] σ
  refine V_R (fun hR => ?_)
  obtain ⟨hF, hsp0, hsp, hne, hx, hU, hK, hl, hT⟩ := id hC
  obtain ⟨ok, xk, usk, ksk, ks2⟩ := id hV
  have hF0 := hF
  obtain ⟨hm_pl, hπ⟩ := hF
  have hπ0 := hπ
  obtain ⟨hpl, e0, e2, e7, e10, eT, eX⟩ := hπ
  obtain ⟨hpl_1, hpl_2, hpl_3, hpl_4, hpl_5, hpl_6⟩ := kd_P hpl
  have ⟨k1, k2, k3, k4, k5, k6, kT, kX⟩ := ok
  have hx0 := hx
  obtain ⟨hs, f0, f1, fQ, fT⟩ := hx
  simp only [Nat.reduceAdd] at fQ fT
  have ⟨x1, x2, x3, x4, xQ, xT⟩ := xk
  have p512 := kd5 hpl
  have s512 := kd5 hsp
  refine V_iload_n (pc := 0) C (dk k_F_heard 0 rfl) rfl ?_
  refine V_iconst (pc := 1) C (dk k_F_heard 1 rfl) rfl ?_
  refine V_sipush (pc := 2) (n' := 999) C (dk k_F_heard 2 rfl) rfl ?_
  refine V_callS (pc := 5) C (dk k_F_heard 3 rfl) lk_F_98 cm_F_within sm_F_within (c_F_within _ _ _ h 1 999 hh ⟨by decide, by decide⟩ ⟨by decide, by decide⟩) rfl rfl (Nat.le_of_ble_eq_true rfl) (Rm.mono hRm (by decide) (by decide)) ?_
  refine V_ifneB (pc := 8) C (dk k_F_heard 4 rfl) 13 rfl (fun h1 => ?_) (fun h1 => ?_)
  · skip
    refine V_aload_n (pc := 13) C (dk k_F_heard 7 rfl) rfl ?_
    refine V_getr (pc := 14) (o2 := 24) C (dk k_F_heard 8 rfl) fl_F_40 kq_0 (by decide) rfl (by decide) rfl ?_
    refine V_aload_n (pc := 17) C (dk k_F_heard 9 rfl) rfl ?_
    refine V_getr (pc := 18) (o2 := 19) C (dk k_F_heard 10 rfl) fl_F_36 kq_0 (by decide) rfl (by decide) rfl ?_
    refine V_callV0r (pc := 21) C (dk k_F_heard 11 rfl) lk_F_189 cm_S_copyFrom vm_S_copyFrom (c_S_copyFrom _ _ _ 24 19 kq_24 hs (by decide)) kq_24 rfl rfl rfl (Nat.le_of_ble_eq_true rfl) (Rm.mono hRm (by decide) (by decide)) (fun τ1 hq1 => ?_)
    refine V_R (fun hR => ?_)
    refine V_iconst (pc := 24) C (dk k_F_heard 12 rfl) rfl ?_
    refine V_istore_n (pc := 25) C (dk k_F_heard 13 rfl) (by rw [hXN]; decide) ?_
    dsimp only [lst, lstL, lz, kill, Fin.val, Nat.reduceAdd]
    refine V_eq (V_loop (fun q : Nat × Wd => q.1 ≤ 61 ∧ StR q.2 24 π (daysX π x q.1) ∧ Fr 24 5 σ q.2 ∧ o_heard π x h = hrd π x h (61 - q.1) q.1) (fun q => [some (vR 0), some (vI h), some (vI (q.1 : Int))]) (fun q => q.2) (fun q => 61 - q.1) (fun q hq ih => ?_) (0, τ1) ⟨Nat.zero_le 61, StR.copy kq_24 ok hx0 hq1.1.1 hq1.1.2.1 hq1.1.2.2.1 hq1.1.2.2.2, hq1.2, if_pos (by omega)⟩) rfl rfl rfl
    obtain ⟨i, τ⟩ := q
    obtain ⟨hi, tx1, tfr, ho⟩ := hq
    dsimp only at hi tx1 tfr ho ih ⊢
    refine V_R (fun hR => ?_)
    have hp2 : PlR τ pl π := hπ0.fr (fun k a b => tfr k (by omega))
    refine V_iload_n (pc := 26) C (dk k_F_heard 14 rfl) rfl ?_
    refine V_bipush (pc := 27) (n' := 60) C (dk k_F_heard 15 rfl) rfl ?_
    refine V_icmpgt (pc := 29) C (dk k_F_heard 16 rfl) 66 rfl (by first | exact hR _ _ | with_reducible assumption | exact ⟨by omega, by omega⟩) (by first | exact hR _ _ | with_reducible assumption | exact ⟨by omega, by omega⟩) (fun h2 => ?_) (fun h2 => ?_)
    · skip
      refine V_bipush (pc := 66) (n' := (-4)) C (dk k_F_heard 33 rfl) rfl ?_
      refine V_iret (pc := 68) C E (dk k_F_heard 34 rfl) ?_
      obtain rfl : i = 61 := by omega
      rw [ho]
      exact ⟨rfl, hC.fr (fun k a => tfr k (by unfold scr at a; omega)), fun k a => tfr k (by omega)⟩
    · skip
      have xk2 := (days_ok ok xk i).ok (i := j + 3) (by omega) (by omega)
      refine V_aload_n (pc := 32) C (dk k_F_heard 17 rfl) rfl ?_
      refine V_getr (pc := 33) (o2 := 24) C (dk k_F_heard 18 rfl) fl_F_40 kq_0 (by decide) rfl (by decide) rfl ?_
      refine V_aload_n (pc := 36) C (dk k_F_heard 19 rfl) rfl ?_
      refine V_getm (pc := 37) (o2 := pl) C (dk k_F_heard 20 rfl) fl_F_26 kq_0 (by decide) rfl (by rw [tfr 0 (by omega)]; exact hm_pl) ?_
      refine V_callV (pc := 40) C (dk k_F_heard 21 rfl) lk_F_192 cm_S_nearOfCellar vm_S_nearOfCellar (c_S_nearOfCellar _ _ _ 24 pl π (daysX π x i) (j + 3) hp2 ok tx1 xk2 (by omega)) kq_24 rfl rfl rfl (Nat.le_of_ble_eq_true rfl) (Rm.mono hRm (by decide) (by decide)) ?_
      have hce : inR (cellar π (daysX π x i)) := by
        have ⟨c0, c1⟩ := cellar_b ok xk2
        exact ⟨by omega, by omega⟩
      show V X _ _ [vI (cellar π (daysX π x i))] _
      refine V_iload_n (pc := 43) C (dk k_F_heard 22 rfl) rfl ?_
      refine V_icmplt (pc := 44) C (dk k_F_heard 23 rfl) 49 rfl hce (by first | exact hR _ _ | with_reducible assumption | exact ⟨by omega, by omega⟩) (fun h3 => ?_) (fun h3 => ?_)
      · skip
        refine V_aload_n (pc := 49) C (dk k_F_heard 26 rfl) rfl ?_
        refine V_getr (pc := 50) (o2 := 24) C (dk k_F_heard 27 rfl) fl_F_40 kq_0 (by decide) rfl (by decide) rfl ?_
        refine V_aload_n (pc := 53) C (dk k_F_heard 28 rfl) rfl ?_
        refine V_getm (pc := 54) (o2 := pl) C (dk k_F_heard 29 rfl) fl_F_26 kq_0 (by decide) rfl (by rw [tfr 0 (by omega)]; exact hm_pl) ?_
        refine V_callV0r (pc := 57) C (dk k_F_heard 30 rfl) lk_F_174 cm_S_passDay vm_S_passDay (c_S_passDay _ _ _ 24 pl π (daysX π x i) (j + 3) hp2 ok tx1 xk2 (by omega)) kq_24 rfl rfl rfl (Nat.le_of_ble_eq_true rfl) (Rm.mono hRm (by decide) (by decide)) (fun τ2 hq2 => ?_)
        refine V_R (fun hR => ?_)
        refine V_iinc (pc := 60) C (dk k_F_heard 31 rfl) (by rw [hXN]; decide) rfl ?_
        dsimp only [lst, lstL, lz, kill, Fin.val, Nat.reduceAdd]
        refine V_goto (pc := 63) C (dk k_F_heard 32 rfl) 26 rfl ?_
        exact ih (i + 1, τ2) ⟨by dsimp only; omega, hq2.1, tfr.tr hq2.2, by rw [ho, show 61 - i = (61 - (i + 1)) + 1 by omega, hrd, if_neg (by omega)]⟩ (by dsimp only; omega)
      · skip
        refine V_iload_n (pc := 47) C (dk k_F_heard 24 rfl) rfl ?_
        refine V_iret (pc := 48) C E (dk k_F_heard 25 rfl) ?_
        rw [ho, show 61 - i = (61 - (i + 1)) + 1 by omega, hrd, if_pos (by omega)]
        exact ⟨rfl, hC.fr (fun k a => tfr k (by unfold scr at a; omega)), fun k a => tfr k (by omega)⟩
  · skip
    refine V_iconst (pc := 11) C (dk k_F_heard 5 rfl) rfl ?_
    refine V_iret (pc := 12) C E (dk k_F_heard 6 rfl) ?_
    rw [show o_heard π x h = -1 from if_neg (by omega)]
    exact ⟨rfl, hC, Fc.rf σ⟩

/-- the best day of those up to i on -/
def whn (π : PL) (x : ST) (t : Int) : Nat → Int
  | 0 => 0
  | i + 1 => if sN x t * rt π (sD x + whn π x t i) < sN x t * rt π (sD x + (i + 1 : Nat)) then ((i + 1 : Nat) : Int) else whn π x t i
theorem whn_b (π : PL) (x : ST) (t : Int) : ∀ i : Nat, 0 ≤ whn π x t i ∧ whn π x t i ≤ i
  | 0 => ⟨Int.le_refl _, Int.le_refl _⟩
  | i + 1 => by
    have ⟨a, b⟩ := whn_b π x t i
    unfold whn
    split <;> omega
def o_when (π : PL) (x : ST) (t k : Int) : Int := if isT π t ∧ 0 ≤ k ∧ k ≤ 1 then (if sP x t = 0 then (if k = 0 then whn π x t 20 else sN x t * rt π (sD x + whn π x t 20)) else -2) else -1
theorem pr_b {π : PL} {x : ST} {j t d : Int} (ok : PLok π) (xk : STok π x j) (h0 : 0 ≤ t) (h1 : t < pN π) : 0 ≤ sN x t * rt π d ∧ sN x t * rt π d ≤ 891 := by
  obtain ⟨a1, a2⟩ := rt_b ok (d := d)
  obtain ⟨b1, b2, -⟩ := xk.2.2.2.2.2 t h0 h1
  exact ⟨Int.mul_nonneg b1 a1, Int.le_trans (Int.mul_le_mul b2 a2 a1 (by omega)) (by omega)⟩

def i_F_when : List (Nat × (Instr × Nat)) := [(0, (.aload_n 0, 1)), (1, (.iload_n 1, 1)), (2, (.invokevirtual 128, 3)), (5, (.ifCond .eq 12, 3)), (8, (.iload_n 2, 1)), (9, (.iconst 0, 1)), (10, (.iconst 1, 1)), (11, (.invokestatic 98, 3)), (14, (.ifCond .ne 5, 3)), (17, (.iconst (-1), 1)), (18, (.ireturn, 1)), (19, (.aload_n 0, 1)), (20, (.getfield 36, 3)), (23, (.getfield 143, 3)), (26, (.iload_n 1, 1)), (27, (.invokestatic 117, 3)), (30, (.ifCond .eq 6, 3)), (33, (.bipush (-2), 2)), (35, (.ireturn, 1)), (36, (.iconst 0, 1)), (37, (.istore_n 3, 1)), (38, (.iconst 1, 1)), (39, (.istore 4, 2)), (41, (.iload 4, 2)), (43, (.bipush 20, 2)), (45, (.if_icmp .gt 28, 3)), (48, (.aload_n 0, 1)), (49, (.iload_n 1, 1)), (50, (.iload 4, 2)), (52, (.invokevirtual 219, 3)), (55, (.aload_n 0, 1)), (56, (.iload_n 1, 1)), (57, (.iload_n 3, 1)), (58, (.invokevirtual 219, 3)), (61, (.if_icmp .le 6, 3)), (64, (.iload 4, 2)), (66, (.istore_n 3, 1)), (67, (.iinc 4 1, 3)), (70, (.goto (-29), 3)), (73, (.iload_n 2, 1)), (74, (.ifCond .ne 7, 3)), (77, (.iload_n 3, 1)), (78, (.goto 9, 3)), (81, (.aload_n 0, 1)), (82, (.iload_n 1, 1)), (83, (.iload_n 3, 1)), (84, (.invokevirtual 219, 3)), (87, (.ireturn, 1))]
theorem k_F_when : i_F_when.all (fun q => decide (decode b_F_when q.1 = .ok q.2)) = true := by decide +kernel

set_option maxHeartbeats 1000000 in
set_option maxRecDepth 20000 in
theorem c_F_when (l : Launch) (G : GE) (σ : Wd) (pl sp : Nat) (π : PL) (x : ST) (us ks : List ST) (lk : List (Int × (Int × Int))) (tx : List Int) (j : Int) (hC : CR σ pl sp π x us ks lk tx) (hV : VK π x us ks j) (hj : j ≤ 100) (t k : Int) (ht : inR t) (hk : inR k) : Ct l G y_F_when b_F_when 5 (some (.int)) 3 64 [vR 0, vI t, vI k] σ (Dt (some (vI (o_when π x t k))) σ) := by
  refine Ct.of cm_F_when (Nat.le_of_ble_eq_true rfl) ?_
  intro X hXl hXG hXN hRm C E
  subst hXl; subst hXG
  have ⟨ht_1, ht_2⟩ := ht
  have ⟨hk_1, hk_2⟩ := hk
  show V X 0 [some (vR 0), some (vI t), some (vI k), none, none] [] σ
  refine V_R (fun hR => ?_)
  obtain ⟨hF, hsp0, hsp, hne, hx, hU, hK, hl, hT⟩ := id hC
  obtain ⟨ok, xk, usk, ksk, ks2⟩ := id hV
  have hF0 := hF
  obtain ⟨hm_pl, hπ⟩ := hF
  have hπ0 := hπ
  obtain ⟨hpl, e0, e2, e7, e10, eT, eX⟩ := hπ
  obtain ⟨hpl_1, hpl_2, hpl_3, hpl_4, hpl_5, hpl_6⟩ := kd_P hpl
  have ⟨k1, k2, k3, k4, k5, k6, kT, kX⟩ := ok
  have hx0 := hx
  obtain ⟨hs, f0, f1, fQ, fT⟩ := hx
  simp only [Nat.reduceAdd] at fQ fT
  have ⟨x1, x2, x3, x4, xQ, xT⟩ := xk
  have p512 := kd5 hpl
  have s512 := kd5 hsp
  refine V_aload_n (pc := 0) C (dk k_F_when 0 rfl) rfl ?_
  refine V_iload_n (pc := 1) C (dk k_F_when 1 rfl) rfl ?_
  refine V_callV (pc := 2) C (dk k_F_when 2 rfl) lk_F_128 cm_F_isThing vm_F_isThing (c_F_isThing _ _ _ pl π t hF0 ok ht) kq_0 rfl rfl rfl (Nat.le_of_ble_eq_true rfl) (Rm.mono hRm (by decide) (by decide)) ?_
  refine V_ifeqB (pc := 5) C (dk k_F_when 3 rfl) 17 rfl (fun h1 => ?_) (fun h1 => ?_)
  · skip
    refine V_iconst (pc := 17) C (dk k_F_when 9 rfl) rfl ?_
    refine V_iret (pc := 18) C E (dk k_F_when 10 rfl) ?_
    exact ⟨by unfold o_when; rw [if_neg (by omega)], rfl⟩
  · skip
    refine V_iload_n (pc := 8) C (dk k_F_when 4 rfl) rfl ?_
    refine V_iconst (pc := 9) C (dk k_F_when 5 rfl) rfl ?_
    refine V_iconst (pc := 10) C (dk k_F_when 6 rfl) rfl ?_
    refine V_callS (pc := 11) C (dk k_F_when 7 rfl) lk_F_98 cm_F_within sm_F_within (c_F_within _ _ _ k 0 1 hk ⟨by decide, by decide⟩ ⟨by decide, by decide⟩) rfl rfl (Nat.le_of_ble_eq_true rfl) (Rm.mono hRm (by decide) (by decide)) ?_
    refine V_ifneB (pc := 14) C (dk k_F_when 8 rfl) 19 rfl (fun h2 => ?_) (fun h2 => ?_)
    · skip
      refine V_aload_n (pc := 19) C (dk k_F_when 11 rfl) rfl ?_
      obtain ⟨gN, gP⟩ := fT t (by omega) (by omega)
      refine V_getr (pc := 20) (o2 := 19) C (dk k_F_when 12 rfl) fl_F_36 kq_0 (by decide) rfl (by decide) rfl ?_
      refine V_getr (pc := 23) (o2 := 23) C (dk k_F_when 13 rfl) fl_F_143 kq_19 (by decide) rfl (by decide) rfl ?_
      refine V_iload_n (pc := 26) C (dk k_F_when 14 rfl) rfl ?_
      refine V_callS (pc := 27) C (dk k_F_when 15 rfl) lk_F_117 cm_F_at sm_F_at (c_at _ _ _ (23) 8 t kq_23 (by decide) (by omega) (by omega)) rfl rfl (Nat.le_of_ble_eq_true rfl) (Rm.mono hRm (by decide) (by decide)) ?_
      refine V_ifeq (pc := 30) C (dk k_F_when 16 rfl) 36 rfl (by first | exact hR _ _ | with_reducible assumption | exact ⟨by omega, by omega⟩) (fun h3 => ?_) (fun h3 => ?_)
      · skip
        refine V_iconst (pc := 36) C (dk k_F_when 19 rfl) rfl ?_
        refine V_istore_n (pc := 37) C (dk k_F_when 20 rfl) (by rw [hXN]; decide) ?_
        dsimp only [lst, lstL, lz, kill, Fin.val, Nat.reduceAdd]
        refine V_iconst (pc := 38) C (dk k_F_when 21 rfl) rfl ?_
        refine V_istore (pc := 39) C (dk k_F_when 22 rfl) (by rw [hXN]; decide) ?_
        dsimp only [lst, lstL, lz, kill, Fin.val, Nat.reduceAdd]
        refine V_eq (V_loop (fun i : Nat => i ≤ 20) (fun i => [some (vR 0), some (vI t), some (vI k), some (vI (whn π x t i)), some (vI ((i : Int) + 1))]) (fun _ => σ) (fun i => 20 - i) (fun i hi ih => ?_) 0 (by decide)) rfl rfl rfl
        have ⟨wb0, wb1⟩ := whn_b π x t i
        have hp1 := pr_b (d := sD x + ((i : Int) + 1)) ok xk (t := t) (by omega) (by omega)
        have hp2 := pr_b (d := sD x + whn π x t i) ok xk (t := t) (by omega) (by omega)
        refine V_iload (pc := 41) C (dk k_F_when 23 rfl) rfl ?_
        refine V_bipush (pc := 43) (n' := 20) C (dk k_F_when 24 rfl) rfl ?_
        refine V_icmpgt (pc := 45) C (dk k_F_when 25 rfl) 73 rfl (by first | exact hR _ _ | with_reducible assumption | exact ⟨by omega, by omega⟩) (by first | exact hR _ _ | with_reducible assumption | exact ⟨by omega, by omega⟩) (fun h4 => ?_) (fun h4 => ?_)
        · skip
          refine V_iload_n (pc := 73) C (dk k_F_when 39 rfl) rfl ?_
          refine V_ifne (pc := 74) C (dk k_F_when 40 rfl) 81 rfl (by first | exact hR _ _ | with_reducible assumption | exact ⟨by omega, by omega⟩) (fun h5 => ?_) (fun h5 => ?_)
          · skip
            refine V_aload_n (pc := 81) C (dk k_F_when 43 rfl) rfl ?_
            refine V_iload_n (pc := 82) C (dk k_F_when 44 rfl) rfl ?_
            refine V_iload_n (pc := 83) C (dk k_F_when 45 rfl) rfl ?_
            refine V_callV (pc := 84) C (dk k_F_when 46 rfl) lk_F_219 cm_F_priceBehind vm_F_priceBehind (c_F_priceBehind _ _ _ pl π x j t (whn π x t i) hF0 ok hx0 xk (by omega) (by omega) (by omega) (by omega) (by omega)) kq_0 rfl rfl rfl (Nat.le_of_ble_eq_true rfl) (Rm.mono hRm (by decide) (by decide)) ?_
            refine V_iret (pc := 87) C E (dk k_F_when 47 rfl) ?_
            obtain rfl : i = 20 := by omega
            exact ⟨by unfold o_when; rw [if_pos (by omega), if_pos (by omega)]; first | rw [if_pos (by omega)] | rw [if_neg (by omega)], rfl⟩
          · skip
            refine V_iload_n (pc := 77) C (dk k_F_when 41 rfl) rfl ?_
            refine V_goto (pc := 78) C (dk k_F_when 42 rfl) 87 rfl ?_
            refine V_iret (pc := 87) C E (dk k_F_when 47 rfl) ?_
            obtain rfl : i = 20 := by omega
            exact ⟨by unfold o_when; rw [if_pos (by omega), if_pos (by omega)]; first | rw [if_pos (by omega)] | rw [if_neg (by omega)], rfl⟩
        · skip
          refine V_aload_n (pc := 48) C (dk k_F_when 26 rfl) rfl ?_
          refine V_iload_n (pc := 49) C (dk k_F_when 27 rfl) rfl ?_
          refine V_iload (pc := 50) C (dk k_F_when 28 rfl) rfl ?_
          refine V_callV (pc := 52) C (dk k_F_when 29 rfl) lk_F_219 cm_F_priceBehind vm_F_priceBehind (c_F_priceBehind _ _ _ pl π x j t ((i : Int) + 1) hF0 ok hx0 xk (by omega) (by omega) (by omega) (by omega) (by omega)) kq_0 rfl rfl rfl (Nat.le_of_ble_eq_true rfl) (Rm.mono hRm (by decide) (by decide)) ?_
          refine V_aload_n (pc := 55) C (dk k_F_when 30 rfl) rfl ?_
          refine V_iload_n (pc := 56) C (dk k_F_when 31 rfl) rfl ?_
          refine V_iload_n (pc := 57) C (dk k_F_when 32 rfl) rfl ?_
          refine V_callV (pc := 58) C (dk k_F_when 33 rfl) lk_F_219 cm_F_priceBehind vm_F_priceBehind (c_F_priceBehind _ _ _ pl π x j t (whn π x t i) hF0 ok hx0 xk (by omega) (by omega) (by omega) (by omega) (by omega)) kq_0 rfl rfl rfl (Nat.le_of_ble_eq_true rfl) (Rm.mono hRm (by decide) (by decide)) ?_
          refine V_icmple (pc := 61) C (dk k_F_when 34 rfl) 67 rfl ⟨by omega, by omega⟩ ⟨by omega, by omega⟩ (fun h6 => ?_) (fun h6 => ?_)
          · skip
            refine V_iinc (pc := 67) C (dk k_F_when 37 rfl) (by rw [hXN]; decide) rfl ?_
            dsimp only [lst, lstL, lz, kill, Fin.val, Nat.reduceAdd]
            refine V_goto (pc := 70) C (dk k_F_when 38 rfl) 41 rfl ?_
            refine V_eq (ih (i + 1) (by omega) (by omega)) ?_ rfl rfl
            rw [whn]
            first | rw [if_pos (show sN x t * rt π (sD x + whn π x t i) < sN x t * rt π (sD x + (i + 1 : Nat)) by rw [Int.natCast_add]; exact Int.not_le.mp (by assumption))] | rw [if_neg (show ¬ sN x t * rt π (sD x + whn π x t i) < sN x t * rt π (sD x + (i + 1 : Nat)) by rw [Int.natCast_add]; exact Int.not_lt.mpr (by assumption))]
            rfl
          · skip
            refine V_iload (pc := 64) C (dk k_F_when 35 rfl) rfl ?_
            refine V_istore_n (pc := 66) C (dk k_F_when 36 rfl) (by rw [hXN]; decide) ?_
            dsimp only [lst, lstL, lz, kill, Fin.val, Nat.reduceAdd]
            refine V_iinc (pc := 67) C (dk k_F_when 37 rfl) (by rw [hXN]; decide) rfl ?_
            dsimp only [lst, lstL, lz, kill, Fin.val, Nat.reduceAdd]
            refine V_goto (pc := 70) C (dk k_F_when 38 rfl) 41 rfl ?_
            refine V_eq (ih (i + 1) (by omega) (by omega)) ?_ rfl rfl
            rw [whn]
            first | rw [if_pos (show sN x t * rt π (sD x + whn π x t i) < sN x t * rt π (sD x + (i + 1 : Nat)) by rw [Int.natCast_add]; exact Int.not_le.mp (by assumption))] | rw [if_neg (show ¬ sN x t * rt π (sD x + whn π x t i) < sN x t * rt π (sD x + (i + 1 : Nat)) by rw [Int.natCast_add]; exact Int.not_lt.mpr (by assumption))]
            rfl
      · skip
        refine V_bipush (pc := 33) (n' := (-2)) C (dk k_F_when 17 rfl) rfl ?_
        refine V_iret (pc := 35) C E (dk k_F_when 18 rfl) ?_
        exact ⟨by unfold o_when; rw [if_pos (by omega), if_neg (by omega)], rfl⟩
    · skip
      refine V_iconst (pc := 17) C (dk k_F_when 9 rfl) rfl ?_
      refine V_iret (pc := 18) C E (dk k_F_when 10 rfl) ?_
      exact ⟨by unfold o_when; rw [if_neg (by omega)], rfl⟩

/-- two things fit: neither gone, near by v together -/
abbrev pfit (x : ST) (v : Int) (a b : Nat) : Prop := (sP x a ≠ 2 ∧ sP x b ≠ 2) ∧ sN x a + sN x b = v
def prI (x : ST) (v : Int) (a : Nat) : Nat → Nat → Int
  | 0, _ => -4
  | f + 1, b => if pfit x v a b then 10 * (a : Int) + b else prI x v a f (b + 1)
def prO (x : ST) (v : Int) (n : Nat) : Nat → Nat → Int
  | 0, _ => -4
  | f + 1, a => if prI x v a (n - (a + 1)) (a + 1) = -4 then prO x v n f (a + 1) else prI x v a (n - (a + 1)) (a + 1)
def o_pair (π : PL) (x : ST) (v : Int) : Int := if 2 ≤ v ∧ v ≤ 198 then prO x v (pN π) (pN π) 0 else -1

def i_F_pair : List (Nat × (Instr × Nat)) := [(0, (.iload_n 1, 1)), (1, (.iconst 2, 1)), (2, (.sipush 198, 3)), (5, (.invokestatic 98, 3)), (8, (.ifCond .ne 5, 3)), (11, (.iconst (-1), 1)), (12, (.ireturn, 1)), (13, (.iconst 0, 1)), (14, (.istore_n 2, 1)), (15, (.iload_n 2, 1)), (16, (.aload_n 0, 1)), (17, (.getfield 26, 3)), (20, (.getfield 196, 3)), (23, (.if_icmp .ge 106, 3)), (26, (.iload_n 2, 1)), (27, (.iconst 1, 1)), (28, (.iadd, 1)), (29, (.istore_n 3, 1)), (30, (.iload_n 3, 1)), (31, (.aload_n 0, 1)), (32, (.getfield 26, 3)), (35, (.getfield 196, 3)), (38, (.if_icmp .ge 85, 3)), (41, (.aload_n 0, 1)), (42, (.getfield 36, 3)), (45, (.getfield 143, 3)), (48, (.iload_n 2, 1)), (49, (.invokestatic 117, 3)), (52, (.iconst 2, 1)), (53, (.if_icmp .eq 22, 3)), (56, (.aload_n 0, 1)), (57, (.getfield 36, 3)), (60, (.getfield 143, 3)), (63, (.iload_n 3, 1)), (64, (.invokestatic 117, 3)), (67, (.iconst 2, 1)), (68, (.if_icmp .eq 7, 3)), (71, (.iconst 1, 1)), (72, (.goto 4, 3)), (75, (.iconst 0, 1)), (76, (.istore 4, 2)), (78, (.iload 4, 2)), (80, (.ifCond .eq 37, 3)), (83, (.aload_n 0, 1)), (84, (.getfield 36, 3)), (87, (.getfield 137, 3)), (90, (.iload_n 2, 1)), (91, (.invokestatic 117, 3)), (94, (.aload_n 0, 1)), (95, (.getfield 36, 3)), (98, (.getfield 137, 3)), (101, (.iload_n 3, 1)), (102, (.invokestatic 117, 3)), (105, (.iadd, 1)), (106, (.iload_n 1, 1)), (107, (.if_icmp .ne 10, 3)), (110, (.bipush 10, 2)), (112, (.iload_n 2, 1)), (113, (.imul, 1)), (114, (.iload_n 3, 1)), (115, (.iadd, 1)), (116, (.ireturn, 1)), (117, (.iinc 3 1, 3)), (120, (.goto (-90), 3)), (123, (.iinc 2 1, 3)), (126, (.goto (-111), 3)), (129, (.bipush (-4), 2)), (131, (.ireturn, 1))]
theorem k_F_pair : i_F_pair.all (fun q => decide (decode b_F_pair q.1 = .ok q.2)) = true := by decide +kernel

set_option maxHeartbeats 1000000 in
set_option maxRecDepth 20000 in
theorem c_F_pair (l : Launch) (G : GE) (σ : Wd) (pl sp : Nat) (π : PL) (x : ST) (us ks : List ST) (lk : List (Int × (Int × Int))) (tx : List Int) (j : Int) (hC : CR σ pl sp π x us ks lk tx) (hV : VK π x us ks j) (hj : j ≤ 100) (v : Int) (hv : inR v) : Ct l G y_F_pair b_F_pair 5 (some (.int)) 1 22 [vR 0, vI v] σ (Dt (some (vI (o_pair π x v))) σ) := by
  refine Ct.of cm_F_pair (Nat.le_of_ble_eq_true rfl) ?_
  intro X hXl hXG hXN hRm C E
  subst hXl; subst hXG
  have ⟨hv_1, hv_2⟩ := hv
  show V X 0 [some (vR 0), some (vI v), none, none, none] [] σ
  refine V_R (fun hR => ?_)
  obtain ⟨hF, hsp0, hsp, hne, hx, hU, hK, hl, hT⟩ := id hC
  obtain ⟨ok, xk, usk, ksk, ks2⟩ := id hV
  have hF0 := hF
  obtain ⟨hm_pl, hπ⟩ := hF
  have hπ0 := hπ
  obtain ⟨hpl, e0, e2, e7, e10, eT, eX⟩ := hπ
  obtain ⟨hpl_1, hpl_2, hpl_3, hpl_4, hpl_5, hpl_6⟩ := kd_P hpl
  have ⟨k1, k2, k3, k4, k5, k6, kT, kX⟩ := ok
  have hx0 := hx
  obtain ⟨hs, f0, f1, fQ, fT⟩ := hx
  simp only [Nat.reduceAdd] at fQ fT
  have ⟨x1, x2, x3, x4, xQ, xT⟩ := xk
  have p512 := kd5 hpl
  have s512 := kd5 hsp
  refine V_iload_n (pc := 0) C (dk k_F_pair 0 rfl) rfl ?_
  refine V_iconst (pc := 1) C (dk k_F_pair 1 rfl) rfl ?_
  refine V_sipush (pc := 2) (n' := 198) C (dk k_F_pair 2 rfl) rfl ?_
  refine V_callS (pc := 5) C (dk k_F_pair 3 rfl) lk_F_98 cm_F_within sm_F_within (c_F_within _ _ _ v 2 198 hv ⟨by decide, by decide⟩ ⟨by decide, by decide⟩) rfl rfl (Nat.le_of_ble_eq_true rfl) (Rm.mono hRm (by decide) (by decide)) ?_
  refine V_ifneB (pc := 8) C (dk k_F_pair 4 rfl) 13 rfl (fun h1 => ?_) (fun h1 => ?_)
  · skip
    refine V_iconst (pc := 13) C (dk k_F_pair 7 rfl) rfl ?_
    refine V_istore_n (pc := 14) C (dk k_F_pair 8 rfl) (by rw [hXN]; decide) ?_
    dsimp only [lst, lstL, lz, kill, Fin.val, Nat.reduceAdd]
    refine V_eq (V_loop (fun a : Nat => a ≤ pN π ∧ o_pair π x v = prO x v (pN π) (pN π - a) a) (fun a => [some (vR 0), some (vI v), some (vI (a : Int)), none, none]) (fun _ => σ) (fun a => pN π - a) (fun a ha iha => ?_) 0 ⟨Nat.zero_le _, if_pos (by omega)⟩) rfl rfl rfl
    obtain ⟨ha, hoa⟩ := ha
    refine V_iload_n (pc := 15) C (dk k_F_pair 9 rfl) rfl ?_
    refine V_aload_n (pc := 16) C (dk k_F_pair 10 rfl) rfl ?_
    refine V_getm (pc := 17) (o2 := pl) C (dk k_F_pair 11 rfl) fl_F_26 kq_0 (by decide) rfl hm_pl ?_
    refine V_geti (pc := 20) (ji := 2) C (dk k_F_pair 12 rfl) fl_F_196 hpl (by decide) rfl rfl ?_
    refine V_icmpge (pc := 23) C (dk k_F_pair 13 rfl) 129 rfl (by first | exact hR _ _ | with_reducible assumption | exact ⟨by omega, by omega⟩) (by first | exact hR _ _ | with_reducible assumption | exact ⟨by omega, by omega⟩) (fun h2 => ?_) (fun h2 => ?_)
    · skip
      refine V_bipush (pc := 129) (n' := (-4)) C (dk k_F_pair 66 rfl) rfl ?_
      refine V_iret (pc := 131) C E (dk k_F_pair 67 rfl) ?_
      obtain rfl : a = pN π := by omega
      rw [hoa, Nat.sub_self]
      exact ⟨rfl, rfl⟩
    · skip
      refine V_iload_n (pc := 26) C (dk k_F_pair 14 rfl) rfl ?_
      refine V_iconst (pc := 27) C (dk k_F_pair 15 rfl) rfl ?_
      refine V_iadd (pc := 28) C (dk k_F_pair 16 rfl) ?_
      refine V_istore_n (pc := 29) C (dk k_F_pair 17 rfl) (by rw [hXN]; decide) ?_
      dsimp only [lst, lstL, lz, kill, Fin.val, Nat.reduceAdd]
      refine V_eq (V_loop (fun b : Nat => a + 1 ≤ b ∧ b ≤ pN π ∧ o_pair π x v = if prI x v a (pN π - b) b = -4 then prO x v (pN π) (pN π - (a + 1)) (a + 1) else prI x v a (pN π - b) b) (fun b => [some (vR 0), some (vI v), some (vI (a : Int)), some (vI (b : Int)), none]) (fun _ => σ) (fun b => pN π - b) (fun b hb ihb => ?_) (a + 1) ⟨Nat.le_refl _, by omega, by rw [hoa, show pN π - a = (pN π - (a + 1)) + 1 by omega, prO]⟩) rfl rfl rfl
      obtain ⟨hb0, hb, hob⟩ := hb
      refine V_iload_n (pc := 30) C (dk k_F_pair 18 rfl) rfl ?_
      refine V_aload_n (pc := 31) C (dk k_F_pair 19 rfl) rfl ?_
      refine V_getm (pc := 32) (o2 := pl) C (dk k_F_pair 20 rfl) fl_F_26 kq_0 (by decide) rfl hm_pl ?_
      refine V_geti (pc := 35) (ji := 2) C (dk k_F_pair 21 rfl) fl_F_196 hpl (by decide) rfl rfl ?_
      refine V_icmpge (pc := 38) C (dk k_F_pair 22 rfl) 123 rfl (by first | exact hR _ _ | with_reducible assumption | exact ⟨by omega, by omega⟩) (by first | exact hR _ _ | with_reducible assumption | exact ⟨by omega, by omega⟩) (fun h3 => ?_) (fun h3 => ?_)
      · skip
        refine V_iinc (pc := 123) C (dk k_F_pair 64 rfl) (by rw [hXN]; decide) rfl ?_
        dsimp only [lst, lstL, lz, kill, Fin.val, Nat.reduceAdd]
        refine V_goto (pc := 126) C (dk k_F_pair 65 rfl) 15 rfl ?_
        refine V_fg 3 ?_
        dsimp only [fg]
        refine iha (a + 1) ⟨by omega, ?_⟩ (by omega)
        obtain rfl : b = pN π := by omega
        rw [hob, Nat.sub_self, prI, if_pos rfl]
      · skip
        obtain ⟨aN, aP⟩ := fT a (by omega) (by omega)
        obtain ⟨bN, bP⟩ := fT b (by omega) (by omega)
        obtain ⟨a0, a1, -, -, -⟩ := xT a (by omega) (by omega)
        obtain ⟨b0, b1, -, -, -⟩ := xT b (by omega) (by omega)
        refine V_aload_n (pc := 41) C (dk k_F_pair 23 rfl) rfl ?_
        refine V_getr (pc := 42) (o2 := 19) C (dk k_F_pair 24 rfl) fl_F_36 kq_0 (by decide) rfl (by decide) rfl ?_
        refine V_getr (pc := 45) (o2 := 23) C (dk k_F_pair 25 rfl) fl_F_143 kq_19 (by decide) rfl (by decide) rfl ?_
        refine V_iload_n (pc := 48) C (dk k_F_pair 26 rfl) rfl ?_
        refine V_callS (pc := 49) C (dk k_F_pair 27 rfl) lk_F_117 cm_F_at sm_F_at (c_at _ _ _ (23) 8 a kq_23 (by decide) (by omega) (by omega)) rfl rfl (Nat.le_of_ble_eq_true rfl) (Rm.mono hRm (by decide) (by decide)) ?_
        refine V_iconst (pc := 52) C (dk k_F_pair 28 rfl) rfl ?_
        refine V_icmpeq (pc := 53) C (dk k_F_pair 29 rfl) 75 rfl (by first | exact hR _ _ | with_reducible assumption | exact ⟨by omega, by omega⟩) (by first | exact hR _ _ | with_reducible assumption | exact ⟨by omega, by omega⟩) (fun h4 => ?_) (fun h4 => ?_)
        · skip
          refine V_iconst (pc := 75) C (dk k_F_pair 39 rfl) rfl ?_
          refine V_istore (pc := 76) C (dk k_F_pair 40 rfl) (by rw [hXN]; decide) ?_
          dsimp only [lst, lstL, lz, kill, Fin.val, Nat.reduceAdd]
          refine V_iload (pc := 78) C (dk k_F_pair 41 rfl) rfl ?_
          refine V_ifeq (pc := 80) C (dk k_F_pair 42 rfl) 117 rfl (by first | exact hR _ _ | with_reducible assumption | exact ⟨by omega, by omega⟩) (fun h5 => ?_) (fun h5 => ?_)
          · skip
            refine V_iinc (pc := 117) C (dk k_F_pair 62 rfl) (by rw [hXN]; decide) rfl ?_
            dsimp only [lst, lstL, lz, kill, Fin.val, Nat.reduceAdd]
            refine V_goto (pc := 120) C (dk k_F_pair 63 rfl) 30 rfl ?_
            refine V_fg 4 ?_
            dsimp only [fg]
            refine ihb (b + 1) ⟨by omega, by omega, ?_⟩ (by omega)
            have hnf : ¬ pfit x v a b := fun z => by obtain ⟨⟨z1, z2⟩, z3⟩ := z; omega
            rw [hob, show pN π - b = (pN π - (b + 1)) + 1 by omega, prI, if_neg hnf]
          · skip
            refine V_aload_n (pc := 83) C (dk k_F_pair 43 rfl) rfl ?_
            refine V_getr (pc := 84) (o2 := 19) C (dk k_F_pair 44 rfl) fl_F_36 kq_0 (by decide) rfl (by decide) rfl ?_
            refine V_getr (pc := 87) (o2 := 22) C (dk k_F_pair 45 rfl) fl_F_137 kq_19 (by decide) rfl (by decide) rfl ?_
            refine V_iload_n (pc := 90) C (dk k_F_pair 46 rfl) rfl ?_
            refine V_callS (pc := 91) C (dk k_F_pair 47 rfl) lk_F_117 cm_F_at sm_F_at (c_at _ _ _ (22) 8 a kq_22 (by decide) (by omega) (by omega)) rfl rfl (Nat.le_of_ble_eq_true rfl) (Rm.mono hRm (by decide) (by decide)) ?_
            refine V_aload_n (pc := 94) C (dk k_F_pair 48 rfl) rfl ?_
            refine V_getr (pc := 95) (o2 := 19) C (dk k_F_pair 49 rfl) fl_F_36 kq_0 (by decide) rfl (by decide) rfl ?_
            refine V_getr (pc := 98) (o2 := 22) C (dk k_F_pair 50 rfl) fl_F_137 kq_19 (by decide) rfl (by decide) rfl ?_
            refine V_iload_n (pc := 101) C (dk k_F_pair 51 rfl) rfl ?_
            refine V_callS (pc := 102) C (dk k_F_pair 52 rfl) lk_F_117 cm_F_at sm_F_at (c_at _ _ _ (22) 8 b kq_22 (by decide) (by omega) (by omega)) rfl rfl (Nat.le_of_ble_eq_true rfl) (Rm.mono hRm (by decide) (by decide)) ?_
            refine V_iadd (pc := 105) C (dk k_F_pair 53 rfl) ?_
            refine V_iload_n (pc := 106) C (dk k_F_pair 54 rfl) rfl ?_
            refine V_icmpne (pc := 107) C (dk k_F_pair 55 rfl) 117 rfl (by first | exact hR _ _ | with_reducible assumption | exact ⟨by omega, by omega⟩) (by first | exact hR _ _ | with_reducible assumption | exact ⟨by omega, by omega⟩) (fun h6 => ?_) (fun h6 => ?_)
            · skip
              refine V_iinc (pc := 117) C (dk k_F_pair 62 rfl) (by rw [hXN]; decide) rfl ?_
              dsimp only [lst, lstL, lz, kill, Fin.val, Nat.reduceAdd]
              refine V_goto (pc := 120) C (dk k_F_pair 63 rfl) 30 rfl ?_
              refine V_fg 4 ?_
              dsimp only [fg]
              refine ihb (b + 1) ⟨by omega, by omega, ?_⟩ (by omega)
              have hnf : ¬ pfit x v a b := fun z => by obtain ⟨⟨z1, z2⟩, z3⟩ := z; omega
              rw [hob, show pN π - b = (pN π - (b + 1)) + 1 by omega, prI, if_neg hnf]
            · skip
              refine V_bipush (pc := 110) (n' := 10) C (dk k_F_pair 56 rfl) rfl ?_
              refine V_iload_n (pc := 112) C (dk k_F_pair 57 rfl) rfl ?_
              refine V_imul (pc := 113) C (dk k_F_pair 58 rfl) ?_
              refine V_iload_n (pc := 114) C (dk k_F_pair 59 rfl) rfl ?_
              refine V_iadd (pc := 115) C (dk k_F_pair 60 rfl) ?_
              refine V_iret (pc := 116) C E (dk k_F_pair 61 rfl) ?_
              first | (exfalso; omega) | (have hnf : pfit x v a b := ⟨⟨by omega, by omega⟩, by omega⟩; rw [hob, show pN π - b = (pN π - (b + 1)) + 1 by omega, prI, if_pos hnf, if_neg (by omega)]; exact ⟨rfl, rfl⟩)
        · skip
          refine V_aload_n (pc := 56) C (dk k_F_pair 30 rfl) rfl ?_
          refine V_getr (pc := 57) (o2 := 19) C (dk k_F_pair 31 rfl) fl_F_36 kq_0 (by decide) rfl (by decide) rfl ?_
          refine V_getr (pc := 60) (o2 := 23) C (dk k_F_pair 32 rfl) fl_F_143 kq_19 (by decide) rfl (by decide) rfl ?_
          refine V_iload_n (pc := 63) C (dk k_F_pair 33 rfl) rfl ?_
          refine V_callS (pc := 64) C (dk k_F_pair 34 rfl) lk_F_117 cm_F_at sm_F_at (c_at _ _ _ (23) 8 b kq_23 (by decide) (by omega) (by omega)) rfl rfl (Nat.le_of_ble_eq_true rfl) (Rm.mono hRm (by decide) (by decide)) ?_
          refine V_iconst (pc := 67) C (dk k_F_pair 35 rfl) rfl ?_
          refine V_icmpeq (pc := 68) C (dk k_F_pair 36 rfl) 75 rfl (by first | exact hR _ _ | with_reducible assumption | exact ⟨by omega, by omega⟩) (by first | exact hR _ _ | with_reducible assumption | exact ⟨by omega, by omega⟩) (fun h7 => ?_) (fun h7 => ?_)
          · skip
            refine V_iconst (pc := 75) C (dk k_F_pair 39 rfl) rfl ?_
            refine V_istore (pc := 76) C (dk k_F_pair 40 rfl) (by rw [hXN]; decide) ?_
            dsimp only [lst, lstL, lz, kill, Fin.val, Nat.reduceAdd]
            refine V_iload (pc := 78) C (dk k_F_pair 41 rfl) rfl ?_
            refine V_ifeq (pc := 80) C (dk k_F_pair 42 rfl) 117 rfl (by first | exact hR _ _ | with_reducible assumption | exact ⟨by omega, by omega⟩) (fun h8 => ?_) (fun h8 => ?_)
            · skip
              refine V_iinc (pc := 117) C (dk k_F_pair 62 rfl) (by rw [hXN]; decide) rfl ?_
              dsimp only [lst, lstL, lz, kill, Fin.val, Nat.reduceAdd]
              refine V_goto (pc := 120) C (dk k_F_pair 63 rfl) 30 rfl ?_
              refine V_fg 4 ?_
              dsimp only [fg]
              refine ihb (b + 1) ⟨by omega, by omega, ?_⟩ (by omega)
              have hnf : ¬ pfit x v a b := fun z => by obtain ⟨⟨z1, z2⟩, z3⟩ := z; omega
              rw [hob, show pN π - b = (pN π - (b + 1)) + 1 by omega, prI, if_neg hnf]
            · skip
              refine V_aload_n (pc := 83) C (dk k_F_pair 43 rfl) rfl ?_
              refine V_getr (pc := 84) (o2 := 19) C (dk k_F_pair 44 rfl) fl_F_36 kq_0 (by decide) rfl (by decide) rfl ?_
              refine V_getr (pc := 87) (o2 := 22) C (dk k_F_pair 45 rfl) fl_F_137 kq_19 (by decide) rfl (by decide) rfl ?_
              refine V_iload_n (pc := 90) C (dk k_F_pair 46 rfl) rfl ?_
              refine V_callS (pc := 91) C (dk k_F_pair 47 rfl) lk_F_117 cm_F_at sm_F_at (c_at _ _ _ (22) 8 a kq_22 (by decide) (by omega) (by omega)) rfl rfl (Nat.le_of_ble_eq_true rfl) (Rm.mono hRm (by decide) (by decide)) ?_
              refine V_aload_n (pc := 94) C (dk k_F_pair 48 rfl) rfl ?_
              refine V_getr (pc := 95) (o2 := 19) C (dk k_F_pair 49 rfl) fl_F_36 kq_0 (by decide) rfl (by decide) rfl ?_
              refine V_getr (pc := 98) (o2 := 22) C (dk k_F_pair 50 rfl) fl_F_137 kq_19 (by decide) rfl (by decide) rfl ?_
              refine V_iload_n (pc := 101) C (dk k_F_pair 51 rfl) rfl ?_
              refine V_callS (pc := 102) C (dk k_F_pair 52 rfl) lk_F_117 cm_F_at sm_F_at (c_at _ _ _ (22) 8 b kq_22 (by decide) (by omega) (by omega)) rfl rfl (Nat.le_of_ble_eq_true rfl) (Rm.mono hRm (by decide) (by decide)) ?_
              refine V_iadd (pc := 105) C (dk k_F_pair 53 rfl) ?_
              refine V_iload_n (pc := 106) C (dk k_F_pair 54 rfl) rfl ?_
              refine V_icmpne (pc := 107) C (dk k_F_pair 55 rfl) 117 rfl (by first | exact hR _ _ | with_reducible assumption | exact ⟨by omega, by omega⟩) (by first | exact hR _ _ | with_reducible assumption | exact ⟨by omega, by omega⟩) (fun h9 => ?_) (fun h9 => ?_)
              · skip
                refine V_iinc (pc := 117) C (dk k_F_pair 62 rfl) (by rw [hXN]; decide) rfl ?_
                dsimp only [lst, lstL, lz, kill, Fin.val, Nat.reduceAdd]
                refine V_goto (pc := 120) C (dk k_F_pair 63 rfl) 30 rfl ?_
                refine V_fg 4 ?_
                dsimp only [fg]
                refine ihb (b + 1) ⟨by omega, by omega, ?_⟩ (by omega)
                have hnf : ¬ pfit x v a b := fun z => by obtain ⟨⟨z1, z2⟩, z3⟩ := z; omega
                rw [hob, show pN π - b = (pN π - (b + 1)) + 1 by omega, prI, if_neg hnf]
              · skip
                refine V_bipush (pc := 110) (n' := 10) C (dk k_F_pair 56 rfl) rfl ?_
                refine V_iload_n (pc := 112) C (dk k_F_pair 57 rfl) rfl ?_
                refine V_imul (pc := 113) C (dk k_F_pair 58 rfl) ?_
                refine V_iload_n (pc := 114) C (dk k_F_pair 59 rfl) rfl ?_
                refine V_iadd (pc := 115) C (dk k_F_pair 60 rfl) ?_
                refine V_iret (pc := 116) C E (dk k_F_pair 61 rfl) ?_
                first | (exfalso; omega) | (have hnf : pfit x v a b := ⟨⟨by omega, by omega⟩, by omega⟩; rw [hob, show pN π - b = (pN π - (b + 1)) + 1 by omega, prI, if_pos hnf, if_neg (by omega)]; exact ⟨rfl, rfl⟩)
          · skip
            refine V_iconst (pc := 71) C (dk k_F_pair 37 rfl) rfl ?_
            refine V_goto (pc := 72) C (dk k_F_pair 38 rfl) 76 rfl ?_
            refine V_istore (pc := 76) C (dk k_F_pair 40 rfl) (by rw [hXN]; decide) ?_
            dsimp only [lst, lstL, lz, kill, Fin.val, Nat.reduceAdd]
            refine V_iload (pc := 78) C (dk k_F_pair 41 rfl) rfl ?_
            refine V_ifeq (pc := 80) C (dk k_F_pair 42 rfl) 117 rfl (by first | exact hR _ _ | with_reducible assumption | exact ⟨by omega, by omega⟩) (fun h10 => ?_) (fun h10 => ?_)
            · skip
              refine V_iinc (pc := 117) C (dk k_F_pair 62 rfl) (by rw [hXN]; decide) rfl ?_
              dsimp only [lst, lstL, lz, kill, Fin.val, Nat.reduceAdd]
              refine V_goto (pc := 120) C (dk k_F_pair 63 rfl) 30 rfl ?_
              refine V_fg 4 ?_
              dsimp only [fg]
              refine ihb (b + 1) ⟨by omega, by omega, ?_⟩ (by omega)
              have hnf : ¬ pfit x v a b := fun z => by obtain ⟨⟨z1, z2⟩, z3⟩ := z; omega
              rw [hob, show pN π - b = (pN π - (b + 1)) + 1 by omega, prI, if_neg hnf]
            · skip
              refine V_aload_n (pc := 83) C (dk k_F_pair 43 rfl) rfl ?_
              refine V_getr (pc := 84) (o2 := 19) C (dk k_F_pair 44 rfl) fl_F_36 kq_0 (by decide) rfl (by decide) rfl ?_
              refine V_getr (pc := 87) (o2 := 22) C (dk k_F_pair 45 rfl) fl_F_137 kq_19 (by decide) rfl (by decide) rfl ?_
              refine V_iload_n (pc := 90) C (dk k_F_pair 46 rfl) rfl ?_
              refine V_callS (pc := 91) C (dk k_F_pair 47 rfl) lk_F_117 cm_F_at sm_F_at (c_at _ _ _ (22) 8 a kq_22 (by decide) (by omega) (by omega)) rfl rfl (Nat.le_of_ble_eq_true rfl) (Rm.mono hRm (by decide) (by decide)) ?_
              refine V_aload_n (pc := 94) C (dk k_F_pair 48 rfl) rfl ?_
              refine V_getr (pc := 95) (o2 := 19) C (dk k_F_pair 49 rfl) fl_F_36 kq_0 (by decide) rfl (by decide) rfl ?_
              refine V_getr (pc := 98) (o2 := 22) C (dk k_F_pair 50 rfl) fl_F_137 kq_19 (by decide) rfl (by decide) rfl ?_
              refine V_iload_n (pc := 101) C (dk k_F_pair 51 rfl) rfl ?_
              refine V_callS (pc := 102) C (dk k_F_pair 52 rfl) lk_F_117 cm_F_at sm_F_at (c_at _ _ _ (22) 8 b kq_22 (by decide) (by omega) (by omega)) rfl rfl (Nat.le_of_ble_eq_true rfl) (Rm.mono hRm (by decide) (by decide)) ?_
              refine V_iadd (pc := 105) C (dk k_F_pair 53 rfl) ?_
              refine V_iload_n (pc := 106) C (dk k_F_pair 54 rfl) rfl ?_
              refine V_icmpne (pc := 107) C (dk k_F_pair 55 rfl) 117 rfl (by first | exact hR _ _ | with_reducible assumption | exact ⟨by omega, by omega⟩) (by first | exact hR _ _ | with_reducible assumption | exact ⟨by omega, by omega⟩) (fun h11 => ?_) (fun h11 => ?_)
              · skip
                refine V_iinc (pc := 117) C (dk k_F_pair 62 rfl) (by rw [hXN]; decide) rfl ?_
                dsimp only [lst, lstL, lz, kill, Fin.val, Nat.reduceAdd]
                refine V_goto (pc := 120) C (dk k_F_pair 63 rfl) 30 rfl ?_
                refine V_fg 4 ?_
                dsimp only [fg]
                refine ihb (b + 1) ⟨by omega, by omega, ?_⟩ (by omega)
                have hnf : ¬ pfit x v a b := fun z => by obtain ⟨⟨z1, z2⟩, z3⟩ := z; omega
                rw [hob, show pN π - b = (pN π - (b + 1)) + 1 by omega, prI, if_neg hnf]
              · skip
                refine V_bipush (pc := 110) (n' := 10) C (dk k_F_pair 56 rfl) rfl ?_
                refine V_iload_n (pc := 112) C (dk k_F_pair 57 rfl) rfl ?_
                refine V_imul (pc := 113) C (dk k_F_pair 58 rfl) ?_
                refine V_iload_n (pc := 114) C (dk k_F_pair 59 rfl) rfl ?_
                refine V_iadd (pc := 115) C (dk k_F_pair 60 rfl) ?_
                refine V_iret (pc := 116) C E (dk k_F_pair 61 rfl) ?_
                first | (exfalso; omega) | (have hnf : pfit x v a b := ⟨⟨by omega, by omega⟩, by omega⟩; rw [hob, show pN π - b = (pN π - (b + 1)) + 1 by omega, prI, if_pos hnf, if_neg (by omega)]; exact ⟨rfl, rfl⟩)
  · skip
    refine V_iconst (pc := 11) C (dk k_F_pair 5 rfl) rfl ?_
    refine V_iret (pc := 12) C E (dk k_F_pair 6 rfl) ?_
    exact ⟨by unfold o_pair; rw [if_neg (by omega)], rfl⟩

def i_F_kinds : List (Nat × (Instr × Nat)) := [(0, (.aload_n 0, 1)), (1, (.iload_n 1, 1)), (2, (.invokevirtual 128, 3)), (5, (.ifCond .ne 5, 3)), (8, (.iconst (-1), 1)), (9, (.ireturn, 1)), (10, (.iconst 0, 1)), (11, (.istore_n 2, 1)), (12, (.iconst 0, 1)), (13, (.istore_n 3, 1)), (14, (.iload_n 3, 1)), (15, (.iconst 4, 1)), (16, (.if_icmp .ge 24, 3)), (19, (.aload_n 0, 1)), (20, (.iload_n 1, 1)), (21, (.iload_n 3, 1)), (22, (.invokevirtual 236, 3)), (25, (.ifCond .eq 9, 3)), (28, (.iload_n 2, 1)), (29, (.iconst 1, 1)), (30, (.iload_n 3, 1)), (31, (.ishl, 1)), (32, (.ior, 1)), (33, (.istore_n 2, 1)), (34, (.iinc 3 1, 3)), (37, (.goto (-23), 3)), (40, (.iload_n 2, 1)), (41, (.ireturn, 1))]
theorem k_F_kinds : i_F_kinds.all (fun q => decide (decode b_F_kinds q.1 = .ok q.2)) = true := by decide +kernel

set_option maxHeartbeats 1000000 in
set_option maxRecDepth 20000 in
theorem c_F_kinds (l : Launch) (G : GE) (σ : Wd) (pl sp : Nat) (π : PL) (x : ST) (us ks : List ST) (lk : List (Int × (Int × Int))) (tx : List Int) (j : Int) (hC : CR σ pl sp π x us ks lk tx) (hV : VK π x us ks j) (hj : j ≤ 100) (t : Int) (ht : inR t) : Ct l G y_F_kinds b_F_kinds 4 (some (.int)) 4 96 [vR 0, vI t] σ (Dt (some (vI (o_kinds π x lk t))) σ) := by
  refine Ct.of cm_F_kinds (Nat.le_of_ble_eq_true rfl) ?_
  intro X hXl hXG hXN hRm C E
  subst hXl; subst hXG
  have ⟨ht_1, ht_2⟩ := ht
  show V X 0 [some (vR 0), some (vI t), none, none] [] σ
  refine V_R (fun hR => ?_)
  obtain ⟨hF, hsp0, hsp, hne, hx, hU, hK, hl, hT⟩ := id hC
  obtain ⟨ok, xk, usk, ksk, ks2⟩ := id hV
  have hF0 := hF
  obtain ⟨hm_pl, hπ⟩ := hF
  have hπ0 := hπ
  obtain ⟨hpl, e0, e2, e7, e10, eT, eX⟩ := hπ
  obtain ⟨hpl_1, hpl_2, hpl_3, hpl_4, hpl_5, hpl_6⟩ := kd_P hpl
  have ⟨k1, k2, k3, k4, k5, k6, kT, kX⟩ := ok
  have hx0 := hx
  obtain ⟨hs, f0, f1, fQ, fT⟩ := hx
  simp only [Nat.reduceAdd] at fQ fT
  have ⟨x1, x2, x3, x4, xQ, xT⟩ := xk
  have p512 := kd5 hpl
  have s512 := kd5 hsp
  refine V_aload_n (pc := 0) C (dk k_F_kinds 0 rfl) rfl ?_
  refine V_iload_n (pc := 1) C (dk k_F_kinds 1 rfl) rfl ?_
  refine V_callV (pc := 2) C (dk k_F_kinds 2 rfl) lk_F_128 cm_F_isThing vm_F_isThing (c_F_isThing _ _ _ pl π t hF0 ok ht) kq_0 rfl rfl rfl (Nat.le_of_ble_eq_true rfl) (Rm.mono hRm (by decide) (by decide)) ?_
  refine V_ifneB (pc := 5) C (dk k_F_kinds 3 rfl) 10 rfl (fun h1 => ?_) (fun h1 => ?_)
  · skip
    refine V_iconst (pc := 10) C (dk k_F_kinds 6 rfl) rfl ?_
    refine V_istore_n (pc := 11) C (dk k_F_kinds 7 rfl) (by rw [hXN]; decide) ?_
    dsimp only [lst, lstL, lz, kill, Fin.val, Nat.reduceAdd]
    refine V_iconst (pc := 12) C (dk k_F_kinds 8 rfl) rfl ?_
    refine V_istore_n (pc := 13) C (dk k_F_kinds 9 rfl) (by rw [hXN]; decide) ?_
    dsimp only [lst, lstL, lz, kill, Fin.val, Nat.reduceAdd]
    refine V_eq (V_loop (fun i : Nat => i ≤ 4) (fun i => [some (vR 0), some (vI t), some (vI (bs (fun k => lk.all (lkq t k (sN x t) (sD x))) i)), some (vI (i : Int))]) (fun _ => σ) (fun i => 4 - i) (fun i hi ih => ?_) 0 (by decide)) rfl rfl rfl
    have hb := bs_256 (fun k => lk.all (lkq t k (sN x t) (sD x))) (show i ≤ 8 by omega)
    refine V_iload_n (pc := 14) C (dk k_F_kinds 10 rfl) rfl ?_
    refine V_iconst (pc := 15) C (dk k_F_kinds 11 rfl) rfl ?_
    refine V_icmpge (pc := 16) C (dk k_F_kinds 12 rfl) 40 rfl (by first | exact hR _ _ | with_reducible assumption | exact ⟨by omega, by omega⟩) (by first | exact hR _ _ | with_reducible assumption | exact ⟨by omega, by omega⟩) (fun h2 => ?_) (fun h2 => ?_)
    · skip
      refine V_iload_n (pc := 40) C (dk k_F_kinds 26 rfl) rfl ?_
      refine V_iret (pc := 41) C E (dk k_F_kinds 27 rfl) ?_
      obtain rfl : i = 4 := by omega
      exact ⟨by unfold o_kinds; rw [if_pos (by omega)], rfl⟩
    · skip
      refine V_aload_n (pc := 19) C (dk k_F_kinds 13 rfl) rfl ?_
      refine V_iload_n (pc := 20) C (dk k_F_kinds 14 rfl) rfl ?_
      refine V_iload_n (pc := 21) C (dk k_F_kinds 15 rfl) rfl ?_
      refine V_callV (pc := 22) C (dk k_F_kinds 16 rfl) lk_F_236 cm_F_fitsLooks vm_F_fitsLooks (c_F_fitsLooks _ _ _ pl π x j t i lk hF0 ok hx0 xk (by omega) hl (by omega) (by omega) ⟨by omega, by omega⟩) kq_0 rfl rfl rfl (Nat.le_of_ble_eq_true rfl) (Rm.mono hRm (by decide) (by decide)) ?_
      refine V_ifeqB (pc := 25) C (dk k_F_kinds 17 rfl) 34 rfl (fun h3 => ?_) (fun h3 => ?_)
      · skip
        refine V_iinc (pc := 34) C (dk k_F_kinds 24 rfl) (by rw [hXN]; decide) rfl ?_
        dsimp only [lst, lstL, lz, kill, Fin.val, Nat.reduceAdd]
        refine V_goto (pc := 37) C (dk k_F_kinds 25 rfl) 14 rfl ?_
        refine V_eq (ih (i + 1) (by omega) (by omega)) ?_ rfl rfl
        rw [bs_s]
        first | rw [if_pos (by assumption), ← bs_or] | rw [if_neg (by assumption), Int.add_zero]
        rfl
      · skip
        refine V_iload_n (pc := 28) C (dk k_F_kinds 18 rfl) rfl ?_
        refine V_iconst (pc := 29) C (dk k_F_kinds 19 rfl) rfl ?_
        refine V_iload_n (pc := 30) C (dk k_F_kinds 20 rfl) rfl ?_
        have hp8 := bs_p8 (show i < 8 by omega)
        refine V_ishl (pc := 31) C (dk k_F_kinds 21 rfl) (by omega) (by omega) (by omega) hp8.1 ?_
        refine V_ior (pc := 32) C (dk k_F_kinds 22 rfl) ⟨by omega, by omega⟩ ⟨by omega, by omega⟩ (by omega) (by omega) ?_
        refine V_istore_n (pc := 33) C (dk k_F_kinds 23 rfl) (by rw [hXN]; decide) ?_
        dsimp only [lst, lstL, lz, kill, Fin.val, Nat.reduceAdd]
        refine V_iinc (pc := 34) C (dk k_F_kinds 24 rfl) (by rw [hXN]; decide) rfl ?_
        dsimp only [lst, lstL, lz, kill, Fin.val, Nat.reduceAdd]
        refine V_goto (pc := 37) C (dk k_F_kinds 25 rfl) 14 rfl ?_
        refine V_eq (ih (i + 1) (by omega) (by omega)) ?_ rfl rfl
        rw [bs_s]
        first | rw [if_pos (by assumption), ← bs_or] | rw [if_neg (by assumption), Int.add_zero]
        rfl
  · skip
    refine V_iconst (pc := 8) C (dk k_F_kinds 4 rfl) rfl ?_
    refine V_iret (pc := 9) C E (dk k_F_kinds 5 rfl) ?_
    exact ⟨by unfold o_kinds; rw [if_neg (by omega)], rfl⟩
