def piO (d : DS) : PL := ((dM d).length, ((dT d).length, ((dX d).length, (dL d, (fun t => ((dT d).getD t.toNat (0, (0, (0, 0)))).1, (fun t => ((dT d).getD t.toNat (0, (0, (0, 0)))).2.1, (fun t => ((dT d).getD t.toNat (0, (0, (0, 0)))).2.2.2, fun r => (dX d).getD r.toNat 0)))))))
def stO (d : DS) : ST := (0, (dS d, (fun q => (dM d).getD q.toNat 0, (fun _ => 0, (fun t => ((dT d).getD t.toNat (0, (0, (0, 0)))).2.2.1, fun _ => 0)))))
theorem getO {α : Type} {l : List α} {t : Int} (z : α) (h0 : 0 ≤ t) (h1 : t < l.length) : l[t.toNat]? = some (l.getD t.toNat z) := by
  rw [List.getD_eq_getElem?_getD, List.getElem?_eq_getElem (show t.toNat < l.length by omega)]; rfl
theorem DR.pl {σ : Wd} {p : Nat} {d : DS} (h : DR σ p d) : PlR σ p (piO d) := by
  obtain ⟨h0, ⟨h1, h1b⟩, ⟨h2, h2b⟩, ⟨h3, h3b⟩, ⟨h4, h5⟩, h6, h7, h8⟩ := h
  refine ⟨h0, h1, h2, h3, h5, fun t a b => ?_, fun r a b => ?_⟩
  · have b : t < ((dT d).length : Int) := b
    have g := h7 t.toNat _ (getO (0, (0, (0, 0))) a b)
    rw [Int.toNat_of_nonneg a] at g
    exact ⟨g.1, g.2.1, g.2.2.2⟩
  · have b : r < ((dX d).length : Int) := b
    have g := h8 r.toNat _ (getO 0 a b)
    rw [Int.toNat_of_nonneg a] at g
    exact g
theorem DR.st {σ τ : Wd} {p s : Nat} {d : DS} (h : DR σ p d) (hs : kd s = 7) (h0 : τ s 0 = 0) (h1 : τ s 1 = σ p 9) (h2 : ∀ i : Int, 0 ≤ i → i < 5 → τ (s + 1) i = σ (p + 1) i ∧ τ (s + 2) i = 0) (h3 : ∀ i : Int, 0 ≤ i → i < 8 → τ (s + 3) i = σ (p + 4) i ∧ τ (s + 4) i = 0) : StR τ s (piO d) (stO d) := by
  obtain ⟨g0, ⟨g1, g1b⟩, ⟨g2, g2b⟩, ⟨g3, g3b⟩, ⟨g4, g5⟩, g6, g7, g8⟩ := h
  refine ⟨hs, h0, h1.trans g4, fun q a b => ?_, fun t a b => ?_⟩
  · have b : q < ((dM d).length : Int) := b
    have g := g6 q.toNat _ (getO 0 a b)
    rw [Int.toNat_of_nonneg a] at g
    obtain ⟨e1, e2⟩ := h2 q a (by omega)
    exact ⟨e1.trans g, e2⟩
  · have b : t < ((dT d).length : Int) := b
    have g := g7 t.toNat _ (getO (0, (0, (0, 0))) a b)
    rw [Int.toNat_of_nonneg a] at g
    obtain ⟨e1, e2⟩ := h3 t a (by omega)
    exact ⟨e1.trans g.2.2.1, e2⟩

def i_F_fault : List (Nat × (Instr × Nat)) := [(0, (.aload_n 0, 1)), (1, (.getfield 19, 3)), (4, (.aload_n 0, 1)), (5, (.getfield 30, 3)), (8, (.aload_n 0, 1)), (9, (.getfield 10, 3)), (12, (.invokevirtual 102, 3)), (15, (.ireturn, 1))]
theorem k_F_fault : i_F_fault.all (fun q => decide (decode b_F_fault q.1 = .ok q.2)) = true := by decide +kernel

set_option maxHeartbeats 1000000 in
set_option maxRecDepth 20000 in
theorem c_F_fault (l : Launch) (G : GE) (σ : Wd) (pl sp : Nat) (π : PL) (x : ST) (us ks : List ST) (lk : List (Int × (Int × Int))) (tx : List Int) (j : Int) (hC : CR σ pl sp π x us ks lk tx) (hV : VK π x us ks j) (hj : j ≤ 100) : Ct l G y_F_fault b_F_fault 1 (some (.int)) 4 96 [vR 0] σ (Rt (some (vI (o_read tx).1)) (fun σ' => CR σ' pl sp π x us ks lk tx ∧ Fc σ σ')) := by
  refine Ct.of cm_F_fault (Nat.le_of_ble_eq_true rfl) ?_
  intro X hXl hXG hXN hRm C E
  subst hXl; subst hXG
  show V X 0 [some (vR 0)] [] σ
  refine V_R (fun hR => ?_)
  obtain ⟨hF, hsp0, hsp, hne, hx, hU, hK, hl, hT⟩ := id hC
  obtain ⟨ok, xk, usk, ksk, ks2⟩ := id hV
  have hF0 := hF
  obtain ⟨hm_pl, hπ⟩ := hF
  have hπ0 := hπ
  obtain ⟨hpl, e0, e2, e7, e10, eT, eX⟩ := hπ
  obtain ⟨hpl_1, hpl_2, hpl_3, hpl_4, hpl_5, hpl_6⟩ := kd_P hpl
  have ⟨k1, k2, k3, k4, k5, k6, kT, kX⟩ := ok
  have hx0 := hx
  obtain ⟨hs, f0, f1, fQ, fT⟩ := hx
  simp only [Nat.reduceAdd] at fQ fT
  have ⟨x1, x2, x3, x4, xQ, xT⟩ := xk
  have p512 := kd5 hpl
  have s512 := kd5 hsp
  refine V_aload_n (pc := 0) C (dk k_F_fault 0 rfl) rfl ?_
  refine V_getr (pc := 1) (o2 := 3) C (dk k_F_fault 1 rfl) fl_F_19 kq_0 (by decide) rfl (by decide) rfl ?_
  refine V_aload_n (pc := 4) C (dk k_F_fault 2 rfl) rfl ?_
  refine V_getm (pc := 5) (o2 := sp) C (dk k_F_fault 3 rfl) fl_F_30 kq_0 (by decide) rfl hsp0 ?_
  refine V_aload_n (pc := 8) C (dk k_F_fault 4 rfl) rfl ?_
  refine V_getr (pc := 9) (o2 := 1) C (dk k_F_fault 5 rfl) fl_F_10 kq_0 (by decide) rfl (by decide) rfl ?_
  refine V_callVr (pc := 12) C (dk k_F_fault 6 rfl) lk_F_102 cm_R_readInto vm_R_readInto (c_R_readInto _ _ _ sp tx hsp hT) kq_3 rfl rfl rfl (Nat.le_of_ble_eq_true rfl) (Rm.mono hRm (by decide) (by decide)) (fun τ1 hq1 => ?_)
  refine V_R (fun hR => ?_)
  refine V_iret (pc := 15) C E (dk k_F_fault 7 rfl) ?_
  exact ⟨rfl, hC.fr (fun k a => hq1.2 k (by unfold scr at a; omega) (by unfold scr at a; omega)), fun k a => hq1.2 k (by omega) (by omega)⟩

theorem rdI_R (tx : List Int) : ∀ (f i : Nat) (d : DS), -4 ≤ (rdI tx f i d).1 ∧ ((rdI tx f i d).1 < tx.length ∨ (rdI tx f i d).1 = -4)
  | 0, _, _ => ⟨Int.le_refl _, Or.inr rfl⟩
  | f + 1, i, d => by
    rw [rdI_s]
    split
    · rename_i hi
      split
      · exact ⟨by dsimp only; omega, Or.inl (by dsimp only; omega)⟩
      · split
        · exact ⟨by dsimp only; omega, Or.inl (by dsimp only; omega)⟩
        · exact rdI_R tx f _ _
    · exact ⟨Int.le_refl _, Or.inr rfl⟩
theorem o_read_R (tx : List Int) (h : tx.length ≤ 200) : inR (o_read tx).1 := by
  have ⟨a, b⟩ := rdI_R tx 200 0 d0
  have a : -4 ≤ (o_read tx).1 := a
  have b : (o_read tx).1 < tx.length ∨ (o_read tx).1 = -4 := b
  exact ⟨by omega, by omega⟩

def i_F_layText : List (Nat × (Instr × Nat)) := [(0, (.aload_n 0, 1)), (1, (.getfield 19, 3)), (4, (.aload_n 0, 1)), (5, (.getfield 30, 3)), (8, (.aload_n 0, 1)), (9, (.getfield 10, 3)), (12, (.invokevirtual 102, 3)), (15, (.bipush (-4), 2)), (17, (.if_icmp .ne 13, 3)), (20, (.aload_n 0, 1)), (21, (.getfield 30, 3)), (24, (.getfield 106, 3)), (27, (.ifCond .ne 5, 3)), (30, (.iconst 0, 1)), (31, (.ireturn, 1)), (32, (.aload_n 0, 1)), (33, (.getfield 26, 3)), (36, (.astore_n 1, 1)), (37, (.aload_n 0, 1)), (38, (.aload_n 0, 1)), (39, (.getfield 30, 3)), (42, (.putfield 26, 3)), (45, (.aload_n 0, 1)), (46, (.aload_n 1, 1)), (47, (.putfield 30, 3)), (50, (.aload_n 0, 1)), (51, (.getfield 36, 3)), (54, (.aload_n 0, 1)), (55, (.getfield 26, 3)), (58, (.invokevirtual 263, 3)), (61, (.aload_n 0, 1)), (62, (.getfield 56, 3)), (65, (.iconst 0, 1)), (66, (.putfield 235, 3)), (69, (.aload_n 0, 1)), (70, (.getfield 46, 3)), (73, (.iconst 0, 1)), (74, (.putfield 182, 3)), (77, (.aload_n 0, 1)), (78, (.getfield 50, 3)), (81, (.iconst 0, 1)), (82, (.putfield 182, 3)), (85, (.iconst 1, 1)), (86, (.ireturn, 1))]
theorem k_F_layText : i_F_layText.all (fun q => decide (decode b_F_layText q.1 = .ok q.2)) = true := by decide +kernel

set_option maxHeartbeats 1000000 in
set_option maxRecDepth 20000 in
theorem c_F_layText (l : Launch) (G : GE) (σ : Wd) (pl sp : Nat) (π : PL) (x : ST) (us ks : List ST) (lk : List (Int × (Int × Int))) (tx : List Int) (j : Int) (hC : CR σ pl sp π x us ks lk tx) (hV : VK π x us ks j) (hj : j ≤ 100) (hok : (o_read tx).1 = -4 ∧ dM (o_read tx).2 ≠ []) : Ct l G y_F_layText b_F_layText 2 (some (.boolean)) 4 96 [vR 0] σ (Rt (some (vI 1)) (fun σ' => CR σ' sp pl (piO (o_read tx).2) (stO (o_read tx).2) [] [] [] tx ∧ Fc σ σ')) := by
  refine Ct.of cm_F_layText (Nat.le_of_ble_eq_true rfl) ?_
  intro X hXl hXG hXN hRm C E
  subst hXl; subst hXG
  show V X 0 [some (vR 0), none] [] σ
  refine V_R (fun hR => ?_)
  obtain ⟨hF, hsp0, hsp, hne, hx, hU, hK, hl, hT⟩ := id hC
  obtain ⟨ok, xk, usk, ksk, ks2⟩ := id hV
  have hF0 := hF
  obtain ⟨hm_pl, hπ⟩ := hF
  have hπ0 := hπ
  obtain ⟨hpl, e0, e2, e7, e10, eT, eX⟩ := hπ
  obtain ⟨hpl_1, hpl_2, hpl_3, hpl_4, hpl_5, hpl_6⟩ := kd_P hpl
  have ⟨k1, k2, k3, k4, k5, k6, kT, kX⟩ := ok
  have hx0 := hx
  obtain ⟨hs, f0, f1, fQ, fT⟩ := hx
  simp only [Nat.reduceAdd] at fQ fT
  have ⟨x1, x2, x3, x4, xQ, xT⟩ := xk
  have p512 := kd5 hpl
  have s512 := kd5 hsp
  obtain ⟨tx1, tx2, tx3⟩ := id hT
  refine V_aload_n (pc := 0) C (dk k_F_layText 0 rfl) rfl ?_
  refine V_getr (pc := 1) (o2 := 3) C (dk k_F_layText 1 rfl) fl_F_19 kq_0 (by decide) rfl (by decide) rfl ?_
  refine V_aload_n (pc := 4) C (dk k_F_layText 2 rfl) rfl ?_
  refine V_getm (pc := 5) (o2 := sp) C (dk k_F_layText 3 rfl) fl_F_30 kq_0 (by decide) rfl hsp0 ?_
  refine V_aload_n (pc := 8) C (dk k_F_layText 4 rfl) rfl ?_
  refine V_getr (pc := 9) (o2 := 1) C (dk k_F_layText 5 rfl) fl_F_10 kq_0 (by decide) rfl (by decide) rfl ?_
  refine V_callVr (pc := 12) C (dk k_F_layText 6 rfl) lk_F_102 cm_R_readInto vm_R_readInto (c_R_readInto _ _ _ sp tx hsp hT) kq_3 rfl rfl rfl (Nat.le_of_ble_eq_true rfl) (Rm.mono hRm (by decide) (by decide)) (fun τ1 hq1 => ?_)
  refine V_R (fun hR => ?_)
  have hm1 : (τ1 0 3).toNat = sp := by rw [hq1.2 0 (by omega) (by omega)]; exact hsp0
  have hm2 : (τ1 0 2).toNat = pl := by rw [hq1.2 0 (by omega) (by omega)]; exact hm_pl
  have hrr : inR (o_read tx).1 := o_read_R tx tx2
  have hD := hq1.1 hok.1
  have hlen : 0 < (dM (o_read tx).2).length := Nat.pos_of_ne_zero (fun h => hok.2 (List.eq_nil_of_length_eq_zero h))
  have hD0 := hD.2.1.1
  refine V_bipush (pc := 15) (n' := (-4)) C (dk k_F_layText 7 rfl) rfl ?_
  refine V_icmpne (pc := 17) C (dk k_F_layText 8 rfl) 30 rfl hrr ⟨by decide, by decide⟩ (fun h1 => ?_) (fun h1 => ?_)
  · skip
    exfalso; omega
  · skip
    refine V_aload_n (pc := 20) C (dk k_F_layText 9 rfl) rfl ?_
    refine V_getm (pc := 21) (o2 := sp) C (dk k_F_layText 10 rfl) fl_F_30 kq_0 (by decide) rfl hm1 ?_
    refine V_geti (pc := 24) (ji := 0) C (dk k_F_layText 11 rfl) fl_F_106 hsp (by decide) rfl rfl ?_
    refine V_ifne (pc := 27) C (dk k_F_layText 12 rfl) 32 rfl (by first | exact hR _ _ | with_reducible assumption | exact ⟨by omega, by omega⟩) (fun h2 => ?_) (fun h2 => ?_)
    · skip
      refine V_aload_n (pc := 32) C (dk k_F_layText 15 rfl) rfl ?_
      refine V_getm (pc := 33) (o2 := pl) C (dk k_F_layText 16 rfl) fl_F_26 kq_0 (by decide) rfl hm2 ?_
      refine V_astore_n (pc := 36) C (dk k_F_layText 17 rfl) (by rw [hXN]; decide) ?_
      dsimp only [lst, lstL, lz, kill, Fin.val, Nat.reduceAdd]
      refine V_aload_n (pc := 37) C (dk k_F_layText 18 rfl) rfl ?_
      refine V_aload_n (pc := 38) C (dk k_F_layText 19 rfl) rfl ?_
      refine V_getm (pc := 39) (o2 := sp) C (dk k_F_layText 20 rfl) fl_F_30 kq_0 (by decide) rfl hm1 ?_
      refine V_putm (pc := 42) C (dk k_F_layText 21 rfl) fl_F_26 fw_8_2 kq_0 (by decide) rfl (by omega) ?_
      refine V_R (fun hR => ?_)
      refine V_aload_n (pc := 45) C (dk k_F_layText 22 rfl) rfl ?_
      refine V_aload_n (pc := 46) C (dk k_F_layText 23 rfl) rfl ?_
      refine V_putm (pc := 47) C (dk k_F_layText 24 rfl) fl_F_30 fw_8_3 kq_0 (by decide) rfl (by omega) ?_
      refine V_R (fun hR => ?_)
      change V X _ _ _ (up (up τ1 0 2 (sp : Int)) 0 3 (pl : Int))
      refine V_R (fun hR => ?_)
      refine V_aload_n (pc := 50) C (dk k_F_layText 25 rfl) rfl ?_
      refine V_getr (pc := 51) (o2 := 19) C (dk k_F_layText 26 rfl) fl_F_36 kq_0 (by decide) rfl (by decide) rfl ?_
      refine V_aload_n (pc := 54) C (dk k_F_layText 27 rfl) rfl ?_
      have hm3 : (up (up τ1 0 2 sp) 0 3 pl 0 2).toNat = sp := by rw [up_ne2 _ (by decide), up_at]; exact Int.toNat_natCast sp
      refine V_getm (pc := 55) (o2 := sp) C (dk k_F_layText 28 rfl) fl_F_26 kq_0 (by decide) rfl hm3 ?_
      refine V_callV0r (pc := 58) C (dk k_F_layText 29 rfl) lk_F_263 cm_S_begin vm_S_begin (c_S_begin _ _ _ 19 sp hs hsp) kq_19 rfl rfl rfl (Nat.le_of_ble_eq_true rfl) (Rm.mono hRm (by decide) (by decide)) (fun τ2 hq2 => ?_)
      refine V_R (fun hR => ?_)
      refine V_aload_n (pc := 61) C (dk k_F_layText 30 rfl) rfl ?_
      refine V_getr (pc := 62) (o2 := 113) C (dk k_F_layText 31 rfl) fl_F_56 kq_0 (by decide) rfl (by decide) rfl ?_
      refine V_iconst (pc := 65) C (dk k_F_layText 32 rfl) rfl ?_
      refine V_puti (pc := 66) (ji := 3) C (dk k_F_layText 33 rfl) fl_F_235 fw_3_3 kq_113 (by decide) rfl rfl R0 ?_
      refine V_R (fun hR => ?_)
      refine V_aload_n (pc := 69) C (dk k_F_layText 34 rfl) rfl ?_
      refine V_getr (pc := 70) (o2 := 29) C (dk k_F_layText 35 rfl) fl_F_46 kq_0 (by decide) rfl (by decide) rfl ?_
      refine V_iconst (pc := 73) C (dk k_F_layText 36 rfl) rfl ?_
      refine V_puti (pc := 74) (ji := 2) C (dk k_F_layText 37 rfl) fl_F_182 fw_4_2 kq_29 (by decide) rfl rfl R0 ?_
      refine V_R (fun hR => ?_)
      refine V_aload_n (pc := 77) C (dk k_F_layText 38 rfl) rfl ?_
      refine V_getr (pc := 78) (o2 := 71) C (dk k_F_layText 39 rfl) fl_F_50 kq_0 (by decide) rfl (by decide) rfl ?_
      refine V_iconst (pc := 81) C (dk k_F_layText 40 rfl) rfl ?_
      refine V_puti (pc := 82) (ji := 2) C (dk k_F_layText 41 rfl) fl_F_182 fw_4_2 kq_71 (by decide) rfl rfl R0 ?_
      refine V_R (fun hR => ?_)
      refine V_iconst (pc := 85) C (dk k_F_layText 42 rfl) rfl ?_
      refine V_zret (pc := 86) C (by first | exact Or.inl rfl | exact Or.inr rfl | (split <;> first | exact Or.inl rfl | exact Or.inr rfl) | omega) E (dk k_F_layText 43 rfl) ?_
      have g : ∀ k, k ≠ 0 → up (up τ1 0 2 (sp : Int)) 0 3 (pl : Int) k = τ1 k := fun k a => by rw [up_row _ _ _ a, up_row _ _ _ a]
      have e : ∀ k, ¬ (3 ≤ k ∧ k < 5) → ¬ (sp ≤ k ∧ k < sp + 7) → k ≠ 0 → ¬ (19 ≤ k ∧ k < 24) → k ≠ 113 → k ≠ 29 → k ≠ 71 → up (up (up τ2 113 3 0) 29 2 0) 71 2 0 k = σ k := fun k a b c d u v z => by rw [up_row _ _ _ z, up_row _ _ _ v, up_row _ _ _ u, hq2.2 k (by omega), g k c]; exact hq1.2 k a b
      have e2 : ∀ k, k ≠ 113 → k ≠ 29 → k ≠ 71 → up (up (up τ2 113 3 0) 29 2 0) 71 2 0 k = τ2 k := fun k u v z => by rw [up_row _ _ _ z, up_row _ _ _ v, up_row _ _ _ u]
      have e0 : up (up (up τ2 113 3 0) 29 2 0) 71 2 0 0 = up (up τ1 0 2 (sp : Int)) 0 3 (pl : Int) 0 := (e2 0 (by omega) (by omega) (by omega)).trans (hq2.2 0 (by omega))
      have eS : ∀ k, sp ≤ k → k < sp + 7 → up (up (up τ2 113 3 0) 29 2 0) 71 2 0 k = τ1 k := fun k a b => (e2 k (by omega) (by omega) (by omega)).trans ((hq2.2 k (by omega)).trans (g k (by omega)))
      have hD3 := hD.fr eS
      obtain ⟨u0, u1, u2, u3, u4, u5⟩ := hU
      obtain ⟨v0, v1, v2, v3, v4, v5⟩ := hK
      have m29 : up (up (up τ2 113 3 0) 29 2 0) 71 2 0 29 1 = σ 29 1 := by rw [up_ne1 _ _ _ _ (by decide), up_ne2 _ (by decide), up_ne1 _ _ _ _ (by decide), hq2.2 29 (by omega), g 29 (by omega), hq1.2 29 (by omega) (by omega)]
      have m71 : up (up (up τ2 113 3 0) 29 2 0) 71 2 0 71 1 = σ 71 1 := by rw [up_ne2 _ (by decide), up_ne1 _ _ _ _ (by decide), up_ne1 _ _ _ _ (by decide), hq2.2 71 (by omega), g 71 (by omega), hq1.2 71 (by omega) (by omega)]
      obtain ⟨z0, z1, z2, z3⟩ := hq2.1
      rw [g sp (by omega)] at z1
      have z2 : ∀ i : Int, 0 ≤ i → i < 5 → τ2 (19 + 1) i = τ1 (sp + 1) i ∧ τ2 (19 + 2) i = 0 := fun i a b => by rw [← g (sp + 1) (by omega)]; exact z2 i a b
      have z3 : ∀ i : Int, 0 ≤ i → i < 8 → τ2 (19 + 3) i = τ1 (sp + 4) i ∧ τ2 (19 + 4) i = 0 := fun i a b => by rw [← g (sp + 4) (by omega)]; exact z3 i a b
      refine ⟨rfl, ⟨⟨?_, hD3.pl⟩, ?_, hpl, fun h => hne h.symm, (hD.st hs z0 z1 z2 z3).fr (fun k a b => e2 k (by omega) (by omega) (by omega)), ?_, ?_, ?_, hT.fr (e 1 (by omega) (by omega) (by omega) (by omega) (by omega) (by omega) (by omega)) (e 2 (by omega) (by omega) (by omega) (by omega) (by omega) (by omega) (by omega))⟩, fun k a => e k (by omega) (by omega) (by omega) (by omega) (by omega) (by omega) (by omega)⟩
      · rw [e0, up_ne2 _ (by decide), up_at]; exact Int.toNat_natCast sp
      · rw [e0, up_at]; exact Int.toNat_natCast pl
      · exact ⟨u0, by rw [m29]; exact u1, by rw [m29]; exact u2, by rw [up_ne1 _ _ _ _ (by decide), up_at]; rfl, by decide, fun k y h => by simp at h⟩
      · exact ⟨v0, by rw [m71]; exact v1, by rw [m71]; exact v2, by rw [up_at]; rfl, by decide, fun k y h => by simp at h⟩
      · exact ⟨by rw [up_ne1 _ _ _ _ (by decide), up_ne1 _ _ _ _ (by decide), up_at]; rfl, by decide, fun k y h => by simp at h⟩
    · skip
      exfalso; omega

set_option maxHeartbeats 1000000 in
set_option maxRecDepth 20000 in
theorem c_F_layText0 (l : Launch) (G : GE) (σ : Wd) (pl sp : Nat) (π : PL) (x : ST) (us ks : List ST) (lk : List (Int × (Int × Int))) (tx : List Int) (j : Int) (hC : CR σ pl sp π x us ks lk tx) (hV : VK π x us ks j) (hj : j ≤ 100) (hno : ¬ ((o_read tx).1 = -4 ∧ dM (o_read tx).2 ≠ [])) : Ct l G y_F_layText b_F_layText 2 (some (.boolean)) 4 96 [vR 0] σ (Rt (some (vI 0)) (fun σ' => CR σ' pl sp π x us ks lk tx ∧ Fc σ σ')) := by
  refine Ct.of cm_F_layText (Nat.le_of_ble_eq_true rfl) ?_
  intro X hXl hXG hXN hRm C E
  subst hXl; subst hXG
  show V X 0 [some (vR 0), none] [] σ
  refine V_R (fun hR => ?_)
  obtain ⟨hF, hsp0, hsp, hne, hx, hU, hK, hl, hT⟩ := id hC
  obtain ⟨ok, xk, usk, ksk, ks2⟩ := id hV
  have hF0 := hF
  obtain ⟨hm_pl, hπ⟩ := hF
  have hπ0 := hπ
  obtain ⟨hpl, e0, e2, e7, e10, eT, eX⟩ := hπ
  obtain ⟨hpl_1, hpl_2, hpl_3, hpl_4, hpl_5, hpl_6⟩ := kd_P hpl
  have ⟨k1, k2, k3, k4, k5, k6, kT, kX⟩ := ok
  have hx0 := hx
  obtain ⟨hs, f0, f1, fQ, fT⟩ := hx
  simp only [Nat.reduceAdd] at fQ fT
  have ⟨x1, x2, x3, x4, xQ, xT⟩ := xk
  have p512 := kd5 hpl
  have s512 := kd5 hsp
  obtain ⟨tx1, tx2, tx3⟩ := id hT
  refine V_aload_n (pc := 0) C (dk k_F_layText 0 rfl) rfl ?_
  refine V_getr (pc := 1) (o2 := 3) C (dk k_F_layText 1 rfl) fl_F_19 kq_0 (by decide) rfl (by decide) rfl ?_
  refine V_aload_n (pc := 4) C (dk k_F_layText 2 rfl) rfl ?_
  refine V_getm (pc := 5) (o2 := sp) C (dk k_F_layText 3 rfl) fl_F_30 kq_0 (by decide) rfl hsp0 ?_
  refine V_aload_n (pc := 8) C (dk k_F_layText 4 rfl) rfl ?_
  refine V_getr (pc := 9) (o2 := 1) C (dk k_F_layText 5 rfl) fl_F_10 kq_0 (by decide) rfl (by decide) rfl ?_
  refine V_callVr (pc := 12) C (dk k_F_layText 6 rfl) lk_F_102 cm_R_readInto vm_R_readInto (c_R_readInto _ _ _ sp tx hsp hT) kq_3 rfl rfl rfl (Nat.le_of_ble_eq_true rfl) (Rm.mono hRm (by decide) (by decide)) (fun τ1 hq1 => ?_)
  refine V_R (fun hR => ?_)
  have hm1 : (τ1 0 3).toNat = sp := by rw [hq1.2 0 (by omega) (by omega)]; exact hsp0
  have hm2 : (τ1 0 2).toNat = pl := by rw [hq1.2 0 (by omega) (by omega)]; exact hm_pl
  have hrr : inR (o_read tx).1 := o_read_R tx tx2
  refine V_bipush (pc := 15) (n' := (-4)) C (dk k_F_layText 7 rfl) rfl ?_
  refine V_icmpne (pc := 17) C (dk k_F_layText 8 rfl) 30 rfl hrr ⟨by decide, by decide⟩ (fun h1 => ?_) (fun h1 => ?_)
  · skip
    refine V_iconst (pc := 30) C (dk k_F_layText 13 rfl) rfl ?_
    refine V_zret (pc := 31) C (by first | exact Or.inl rfl | exact Or.inr rfl | (split <;> first | exact Or.inl rfl | exact Or.inr rfl) | omega) E (dk k_F_layText 14 rfl) ?_
    exact ⟨rfl, hC.fr (fun k a => hq1.2 k (by unfold scr at a; omega) (by unfold scr at a; omega)), fun k a => hq1.2 k (by omega) (by omega)⟩
  · skip
    have hD := hq1.1 (by assumption)
    have hD0 := hD.2.1.1
    refine V_aload_n (pc := 20) C (dk k_F_layText 9 rfl) rfl ?_
    refine V_getm (pc := 21) (o2 := sp) C (dk k_F_layText 10 rfl) fl_F_30 kq_0 (by decide) rfl hm1 ?_
    refine V_geti (pc := 24) (ji := 0) C (dk k_F_layText 11 rfl) fl_F_106 hsp (by decide) rfl rfl ?_
    refine V_ifne (pc := 27) C (dk k_F_layText 12 rfl) 32 rfl (by first | exact hR _ _ | with_reducible assumption | exact ⟨by omega, by omega⟩) (fun h2 => ?_) (fun h2 => ?_)
    · skip
      exfalso
      apply hno
      refine ⟨by assumption, fun hz => ?_⟩
      rw [hz] at hD0
      have hD0 : τ1 sp 0 = 0 := hD0
      omega
    · skip
      refine V_iconst (pc := 30) C (dk k_F_layText 13 rfl) rfl ?_
      refine V_zret (pc := 31) C (by first | exact Or.inl rfl | exact Or.inr rfl | (split <;> first | exact Or.inl rfl | exact Or.inr rfl) | omega) E (dk k_F_layText 14 rfl) ?_
      exact ⟨rfl, hC.fr (fun k a => hq1.2 k (by unfold scr at a; omega) (by unfold scr at a; omega)), fun k a => hq1.2 k (by omega) (by omega)⟩

def i_F_lay : List (Nat × (Instr × Nat)) := [(0, (.aload_n 0, 1)), (1, (.invokevirtual 90, 3)), (4, (.ifCond .eq 13, 3)), (7, (.aload_n 0, 1)), (8, (.getfield 26, 3)), (11, (.getfield 106, 3)), (14, (.goto 5, 3)), (17, (.bipush (-2), 2)), (19, (.ireturn, 1))]
theorem k_F_lay : i_F_lay.all (fun q => decide (decode b_F_lay q.1 = .ok q.2)) = true := by decide +kernel

set_option maxHeartbeats 1000000 in
set_option maxRecDepth 20000 in
theorem c_F_lay (l : Launch) (G : GE) (σ : Wd) (pl sp : Nat) (π : PL) (x : ST) (us ks : List ST) (lk : List (Int × (Int × Int))) (tx : List Int) (j : Int) (hC : CR σ pl sp π x us ks lk tx) (hV : VK π x us ks j) (hj : j ≤ 100) (hok : (o_read tx).1 = -4 ∧ dM (o_read tx).2 ≠ []) : Ct l G y_F_lay b_F_lay 1 (some (.int)) 5 117 [vR 0] σ (Rt (some (vI (dM (o_read tx).2).length)) (fun σ' => CR σ' sp pl (piO (o_read tx).2) (stO (o_read tx).2) [] [] [] tx ∧ Fc σ σ')) := by
  refine Ct.of cm_F_lay (Nat.le_of_ble_eq_true rfl) ?_
  intro X hXl hXG hXN hRm C E
  subst hXl; subst hXG
  show V X 0 [some (vR 0)] [] σ
  refine V_R (fun hR => ?_)
  obtain ⟨hF, hsp0, hsp, hne, hx, hU, hK, hl, hT⟩ := id hC
  obtain ⟨ok, xk, usk, ksk, ks2⟩ := id hV
  have hF0 := hF
  obtain ⟨hm_pl, hπ⟩ := hF
  have hπ0 := hπ
  obtain ⟨hpl, e0, e2, e7, e10, eT, eX⟩ := hπ
  obtain ⟨hpl_1, hpl_2, hpl_3, hpl_4, hpl_5, hpl_6⟩ := kd_P hpl
  have ⟨k1, k2, k3, k4, k5, k6, kT, kX⟩ := ok
  have hx0 := hx
  obtain ⟨hs, f0, f1, fQ, fT⟩ := hx
  simp only [Nat.reduceAdd] at fQ fT
  have ⟨x1, x2, x3, x4, xQ, xT⟩ := xk
  have p512 := kd5 hpl
  have s512 := kd5 hsp
  obtain ⟨tx1, tx2, tx3⟩ := id hT
  refine V_aload_n (pc := 0) C (dk k_F_lay 0 rfl) rfl ?_
  refine V_callVr (pc := 1) C (dk k_F_lay 1 rfl) lk_F_90 cm_F_layText vm_F_layText (c_F_layText _ _ _ pl sp π x us ks lk tx j hC hV hj hok) kq_0 rfl rfl rfl (Nat.le_of_ble_eq_true rfl) (Rm.mono hRm (by decide) (by decide)) (fun τ1 hq1 => ?_)
  refine V_R (fun hR => ?_)
  have hF2 := hq1.1.1
  have hm4 := hF2.1
  refine V_ifeq (pc := 4) C (dk k_F_lay 2 rfl) 17 rfl (by first | exact hR _ _ | with_reducible assumption | exact ⟨by omega, by omega⟩) (fun h1 => ?_) (fun h1 => ?_)
  · skip
    exfalso; omega
  · skip
    refine V_aload_n (pc := 7) C (dk k_F_lay 3 rfl) rfl ?_
    refine V_getm (pc := 8) (o2 := sp) C (dk k_F_lay 4 rfl) fl_F_26 kq_0 (by decide) rfl hm4 ?_
    refine V_geti (pc := 11) (ji := 0) C (dk k_F_lay 5 rfl) fl_F_106 hsp (by decide) rfl rfl ?_
    refine V_goto (pc := 14) C (dk k_F_lay 6 rfl) 19 rfl ?_
    refine V_iret (pc := 19) C E (dk k_F_lay 8 rfl) ?_
    exact ⟨by rw [hF2.2.2.1]; rfl, hq1.1, hq1.2⟩

set_option maxHeartbeats 1000000 in
set_option maxRecDepth 20000 in
theorem c_F_lay0 (l : Launch) (G : GE) (σ : Wd) (pl sp : Nat) (π : PL) (x : ST) (us ks : List ST) (lk : List (Int × (Int × Int))) (tx : List Int) (j : Int) (hC : CR σ pl sp π x us ks lk tx) (hV : VK π x us ks j) (hj : j ≤ 100) (hno : ¬ ((o_read tx).1 = -4 ∧ dM (o_read tx).2 ≠ [])) : Ct l G y_F_lay b_F_lay 1 (some (.int)) 5 117 [vR 0] σ (Rt (some (vI (-2))) (fun σ' => CR σ' pl sp π x us ks lk tx ∧ Fc σ σ')) := by
  refine Ct.of cm_F_lay (Nat.le_of_ble_eq_true rfl) ?_
  intro X hXl hXG hXN hRm C E
  subst hXl; subst hXG
  show V X 0 [some (vR 0)] [] σ
  refine V_R (fun hR => ?_)
  obtain ⟨hF, hsp0, hsp, hne, hx, hU, hK, hl, hT⟩ := id hC
  obtain ⟨ok, xk, usk, ksk, ks2⟩ := id hV
  have hF0 := hF
  obtain ⟨hm_pl, hπ⟩ := hF
  have hπ0 := hπ
  obtain ⟨hpl, e0, e2, e7, e10, eT, eX⟩ := hπ
  obtain ⟨hpl_1, hpl_2, hpl_3, hpl_4, hpl_5, hpl_6⟩ := kd_P hpl
  have ⟨k1, k2, k3, k4, k5, k6, kT, kX⟩ := ok
  have hx0 := hx
  obtain ⟨hs, f0, f1, fQ, fT⟩ := hx
  simp only [Nat.reduceAdd] at fQ fT
  have ⟨x1, x2, x3, x4, xQ, xT⟩ := xk
  have p512 := kd5 hpl
  have s512 := kd5 hsp
  obtain ⟨tx1, tx2, tx3⟩ := id hT
  refine V_aload_n (pc := 0) C (dk k_F_lay 0 rfl) rfl ?_
  refine V_callVr (pc := 1) C (dk k_F_lay 1 rfl) lk_F_90 cm_F_layText vm_F_layText (c_F_layText0 _ _ _ pl sp π x us ks lk tx j hC hV hj hno) kq_0 rfl rfl rfl (Nat.le_of_ble_eq_true rfl) (Rm.mono hRm (by decide) (by decide)) (fun τ1 hq1 => ?_)
  refine V_R (fun hR => ?_)
  refine V_ifeq (pc := 4) C (dk k_F_lay 2 rfl) 17 rfl (by first | exact hR _ _ | with_reducible assumption | exact ⟨by omega, by omega⟩) (fun h1 => ?_) (fun h1 => ?_)
  · skip
    refine V_bipush (pc := 17) (n' := (-2)) C (dk k_F_lay 7 rfl) rfl ?_
    refine V_iret (pc := 19) C E (dk k_F_lay 8 rfl) ?_
    exact ⟨rfl, hq1.1, hq1.2⟩
  · skip
    exfalso; omega
