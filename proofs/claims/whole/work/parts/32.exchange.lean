def CoR (σ ρ : Wd) (π : PL) (x : ST) (t : Nat) : Prop := (∀ p : Nat, p < 5 → ρ 124 p = swQ π x t p) ∧ ρ 122 5 = (swM x t).length ∧ (∀ (i u : Nat), (swM x t)[i]? = some u → ρ 123 i = u) ∧ (∀ u : Int, 0 ≤ u → u < t → ρ 127 u = -4) ∧ Fr 122 6 σ ρ
theorem CoR.nt {σ ρ : Wd} {π : PL} {x : ST} {t : Nat} (h : CoR σ ρ π x t) (h0 : sP x t ≠ 0) : CoR σ (up ρ 127 (t : Int) (-4)) π x (t + 1) := by
  obtain ⟨g1, g2, g3, g4, g5⟩ := h
  have eM : swM x (t + 1) = swM x t := if_neg h0
  refine ⟨fun p hp => ?_, ?_, fun i u e => ?_, fun u a b => ?_, g5.up _ _ (by omega) (by omega)⟩
  · rw [up_ne1 _ _ _ _ (by decide), g1 p hp]
    show ((swQ π x t p : Nat) : Int) = ((swQ π x t p + (if sP x t = 0 ∧ pO π t = p then 1 else 0) : Nat) : Int)
    rw [if_neg (fun q => h0 q.1)]; rfl
  · rw [up_ne1 _ _ _ _ (by decide), eM]; exact g2
  · rw [up_ne1 _ _ _ _ (by decide)]
    rw [eM] at e
    exact g3 i u e
  · by_cases hu : u = t
    · subst hu; exact up_at _ _ _ _
    · rw [up_ne2 _ hu]; exact g4 u a (by omega)
theorem CoR.yes {σ ρ : Wd} {π : PL} {x : ST} {t o : Nat} (h : CoR σ ρ π x t) (h0 : sP x t = 0) (ho : pO π t = o) : CoR σ (up (up (up (up ρ 127 (t : Int) (-4)) 123 ((swM x t).length : Int) (t : Int)) 122 5 (((swM x t).length : Int) + 1)) 124 (o : Int) ((swQ π x t o : Nat) + 1)) π x (t + 1) := by
  obtain ⟨g1, g2, g3, g4, g5⟩ := h
  have eM : swM x (t + 1) = swM x t ++ [t] := if_pos h0
  refine ⟨fun p hp => ?_, ?_, fun i u e => ?_, fun u a b => ?_, (((g5.up _ _ (by omega) (by omega)).up _ _ (by omega) (by omega)).up _ _ (by omega) (by omega)).up _ _ (by omega) (by omega)⟩
  · show _ = ((swQ π x t p + (if sP x t = 0 ∧ pO π t = p then 1 else 0) : Nat) : Int)
    by_cases hp2 : p = o
    · subst hp2
      rw [up_at, if_pos ⟨h0, ho⟩]; rfl
    · rw [up_ne2 _ (by omega), up_ne1 _ _ _ _ (by decide), up_ne1 _ _ _ _ (by decide), up_ne1 _ _ _ _ (by decide), g1 p hp, if_neg (fun q => hp2 (by have := q.2; omega))]; rfl
  · rw [up_ne1 _ _ _ _ (by decide), up_at, eM, List.length_append]; rfl
  · rw [up_ne1 _ _ _ _ (by decide), up_ne1 _ _ _ _ (by decide)]
    rw [eM] at e
    rcases rowApp e with ⟨a, b⟩ | ⟨a, b⟩
    · rw [up_ne2 _ (by omega), up_ne1 _ _ _ _ (by decide)]; exact g3 i u b
    · rw [a, up_at, b]
  · rw [up_ne1 _ _ _ _ (by decide), up_ne1 _ _ _ _ (by decide), up_ne1 _ _ _ _ (by decide)]
    by_cases hu : u = t
    · subst hu; exact up_at _ _ _ _
    · rw [up_ne2 _ hu]; exact g4 u a (by omega)
def GvJ (ρ : Wd) (π : PL) (ms gv ts ps : List Nat) : Prop := ∀ u : Int, 0 ≤ u → u < pN π → ((∃ v, v ∈ ts ∧ u = ((v : Nat) : Int)) → ρ 127 u = -4 ∧ swa ms gv u = swa ts ps u) ∧ ((∀ v, v ∈ ts → u ≠ ((v : Nat) : Int)) → ρ 127 u = swa ms gv u)
theorem GvJ.z {ρ : Wd} {π : PL} (ms gv : List Nat) (h : ∀ u : Int, 0 ≤ u → u < pN π → ρ 127 u = -4) : GvJ ρ π ms gv ms gv := fun u a b => ⟨fun _ => ⟨h u a b, rfl⟩, fun q => by rw [h u a b, swa_no ms gv u q]⟩
theorem GvJ.s {ρ : Wd} {π : PL} {ms gv ts ps : List Nat} {t p : Nat} (h : GvJ ρ π ms gv (t :: ts) (p :: ps)) (hn : ∀ v, v ∈ ts → t ≠ v) : GvJ (up ρ 127 (t : Int) (p : Int)) π ms gv ts ps := by
  intro u a b
  obtain ⟨g1, g2⟩ := h u a b
  by_cases hu : u = t
  · subst hu
    refine ⟨fun q => ?_, fun _ => ?_⟩
    · obtain ⟨v, h1, h2⟩ := q
      exact absurd (by omega) (hn v h1)
    · rw [up_at, (g1 ⟨t, List.mem_cons_self, rfl⟩).2, swa, if_pos rfl]
  · rw [up_ne2 _ hu]
    refine ⟨fun q => ?_, fun q => g2 (fun v hv => ?_)⟩
    · obtain ⟨v, h1, h2⟩ := q
      obtain ⟨e1, e2⟩ := g1 ⟨v, List.mem_cons_of_mem _ h1, h2⟩
      refine ⟨e1, e2.trans ?_⟩
      rw [swa, if_neg hu]
    · rcases List.mem_cons.mp hv with e | e
      · rw [e]; exact hu
      · exact q v e
theorem drop_lt {l : List Nat} (h : l.Pairwise (· < ·)) {n t : Nat} {ts : List Nat} (hd : l.drop n = t :: ts) : ∀ v, v ∈ ts → t < v := by
  have h1 : (l.drop n).Pairwise (· < ·) := h.sublist (List.drop_sublist n l)
  rw [hd] at h1
  exact (List.pairwise_cons.mp h1).1

def i_E_collect : List (Nat × (Instr × Nat)) := [(0, (.aload_n 0, 1)), (1, (.iconst 0, 1)), (2, (.putfield 54, 3)), (5, (.iconst 0, 1)), (6, (.istore_n 3, 1)), (7, (.iload_n 3, 1)), (8, (.iconst 5, 1)), (9, (.if_icmp .ge 18, 3)), (12, (.aload_n 0, 1)), (13, (.getfield 15, 3)), (16, (.iload_n 3, 1)), (17, (.iconst 0, 1)), (18, (.invokestatic 31, 3)), (21, (.iinc 3 1, 3)), (24, (.goto (-17), 3)), (27, (.iconst 0, 1)), (28, (.istore_n 3, 1)), (29, (.iload_n 3, 1)), (30, (.aload_n 1, 1)), (31, (.getfield 57, 3)), (34, (.if_icmp .ge 82, 3)), (37, (.aload_n 0, 1)), (38, (.getfield 24, 3)), (41, (.iload_n 3, 1)), (42, (.bipush (-4), 2)), (44, (.invokestatic 31, 3)), (47, (.aload_n 2, 1)), (48, (.getfield 62, 3)), (51, (.iload_n 3, 1)), (52, (.invokestatic 43, 3)), (55, (.ifCond .ne 55, 3)), (58, (.aload_n 0, 1)), (59, (.getfield 9, 3)), (62, (.aload_n 0, 1)), (63, (.getfield 54, 3)), (66, (.iload_n 3, 1)), (67, (.invokestatic 31, 3)), (70, (.aload_n 0, 1)), (71, (.dup, 1)), (72, (.getfield 54, 3)), (75, (.iconst 1, 1)), (76, (.iadd, 1)), (77, (.putfield 54, 3)), (80, (.aload_n 1, 1)), (81, (.getfield 67, 3)), (84, (.iload_n 3, 1)), (85, (.invokestatic 43, 3)), (88, (.istore 4, 2)), (90, (.aload_n 0, 1)), (91, (.getfield 15, 3)), (94, (.iload 4, 2)), (96, (.aload_n 0, 1)), (97, (.getfield 15, 3)), (100, (.iload 4, 2)), (102, (.invokestatic 43, 3)), (105, (.iconst 1, 1)), (106, (.iadd, 1)), (107, (.invokestatic 31, 3)), (110, (.iinc 3 1, 3)), (113, (.goto (-84), 3)), (116, (.aload_n 0, 1)), (117, (.iconst 1, 1)), (118, (.putfield 35, 3)), (121, (.iconst 0, 1)), (122, (.istore_n 3, 1)), (123, (.iload_n 3, 1)), (124, (.iconst 5, 1)), (125, (.if_icmp .ge 40, 3)), (128, (.aload_n 0, 1)), (129, (.getfield 18, 3)), (132, (.iload_n 3, 1)), (133, (.aload_n 0, 1)), (134, (.getfield 35, 3)), (137, (.invokestatic 31, 3)), (140, (.aload_n 0, 1)), (141, (.dup, 1)), (142, (.getfield 35, 3)), (145, (.aload_n 0, 1)), (146, (.getfield 15, 3)), (149, (.iload_n 3, 1)), (150, (.invokestatic 43, 3)), (153, (.iconst 1, 1)), (154, (.iadd, 1)), (155, (.imul, 1)), (156, (.putfield 35, 3)), (159, (.iinc 3 1, 3)), (162, (.goto (-39), 3)), (165, (.return_, 1))]
theorem k_E_collect : i_E_collect.all (fun q => decide (decode b_E_collect q.1 = .ok q.2)) = true := by decide +kernel

set_option maxHeartbeats 2000000 in
set_option maxRecDepth 20000 in
theorem c_E_collect (l : Launch) (G : GE) (σ : Wd) (pl : Nat) (π : PL) (hπ : PlR σ pl π) (ok : PLok π) (x : ST) (j : Int) (hx : StR σ 19 π x) (xk : STok π x j) (hj : j ≤ 200) : Ct l G y_E_collect b_E_collect 5 (none) 1 22 [vR 122, vR pl, vR 19] σ (Rt none (fun σ' => ExR σ' (qO π x) (msO π x) ∧ (∀ u : Int, 0 ≤ u → u < pN π → σ' 127 u = -4) ∧ Fr 122 6 σ σ')) := by
  refine Ct.of cm_E_collect (Nat.le_of_ble_eq_true rfl) ?_
  intro X hXl hXG hXN hRm C E
  subst hXl; subst hXG
  show V X 0 [some (vR 122), some (vR pl), some (vR 19), none, none] [] σ
  refine V_R (fun hR => ?_)
  have hπ0 := hπ
  obtain ⟨hpl, e0, e2, e7, e10, eT, eX⟩ := hπ
  obtain ⟨hpl_1, hpl_2, hpl_3, hpl_4, hpl_5, hpl_6⟩ := kd_P hpl
  have ⟨k1, k2, k3, k4, k5, k6, kT, kX⟩ := ok
  have hx0 := hx
  obtain ⟨hs, f0, f1, fQ, fT⟩ := hx
  simp only [Nat.reduceAdd] at fQ fT
  have ⟨x1, x2, x3, x4, xQ, xT⟩ := xk
  have p512 := kd5 hpl
  obtain ⟨K1, K2, K3, K4, K5, K6, K7⟩ := ExK.of ok x
  refine V_aload_n (pc := 0) C (dk k_E_collect 0 rfl) rfl ?_
  refine V_iconst (pc := 1) C (dk k_E_collect 1 rfl) rfl ?_
  refine V_puti (pc := 2) (ji := 5) C (dk k_E_collect 2 rfl) fl_E_54 fw_1_5 kq_122 (by decide) rfl rfl R0 ?_
  refine V_R (fun hR => ?_)
  refine V_iconst (pc := 5) C (dk k_E_collect 3 rfl) rfl ?_
  refine V_istore_n (pc := 6) C (dk k_E_collect 4 rfl) (by rw [hXN]; decide) ?_
  dsimp only [lst, lstL, lz, kill, Fin.val, Nat.reduceAdd]
  refine V_eq (V_loop (fun q : Nat × Wd => q.1 ≤ 5 ∧ (∀ u : Nat, u < q.1 → q.2 124 u = 0) ∧ q.2 122 5 = 0 ∧ Fr 122 6 σ q.2) (fun q => [some (vR 122), some (vR pl), some (vR 19), some (vI (q.1 : Int)), none]) (fun q => q.2) (fun q => 5 - q.1) (fun q hq ih0 => ?_) (0, up σ 122 5 0) ⟨Nat.zero_le _, fun u a => by dsimp only at a; omega, (show up σ 122 5 0 122 5 = 0 from up_at _ _ _ _), (Fr.rf 122 6 σ).up _ _ (by omega) (by omega)⟩) rfl rfl rfl
  obtain ⟨p, ρ0⟩ := q
  obtain ⟨hp, z1, z2, z3⟩ := hq
  dsimp only at hp z1 z2 z3 ih0 ⊢
  refine V_R (fun hR => ?_)
  refine V_iload_n (pc := 7) C (dk k_E_collect 5 rfl) rfl ?_
  refine V_iconst (pc := 8) C (dk k_E_collect 6 rfl) rfl ?_
  refine V_icmpge (pc := 9) C (dk k_E_collect 7 rfl) 27 rfl (by first | exact hR _ _ | with_reducible assumption | exact ⟨by omega, by omega⟩) (by first | exact hR _ _ | with_reducible assumption | exact ⟨by omega, by omega⟩) (fun h1 => ?_) (fun h1 => ?_)
  · skip
    obtain rfl : p = 5 := by omega
    refine V_iconst (pc := 27) C (dk k_E_collect 15 rfl) rfl ?_
    refine V_istore_n (pc := 28) C (dk k_E_collect 16 rfl) (by rw [hXN]; decide) ?_
    dsimp only [lst, lstL, lz, kill, Fin.val, Nat.reduceAdd]
    refine V_eq (V_loop (fun q : Nat × Wd => q.1 ≤ pN π ∧ CoR σ q.2 π x q.1) (fun q => [some (vR 122), some (vR pl), some (vR 19), some (vI (q.1 : Int)), none]) (fun q => q.2) (fun q => pN π - q.1) (fun q hq ih => ?_) (0, ρ0) ⟨Nat.zero_le _, fun p a => z1 p a, z2, fun i u e => by simp [swM] at e, fun u a b => by dsimp only at b; omega, z3⟩) rfl rfl rfl
    obtain ⟨t, ρ⟩ := q
    obtain ⟨ht, hCo⟩ := hq
    dsimp only at ht hCo ih ⊢
    refine V_R (fun hR => ?_)
    obtain ⟨g1, g2, g3, g4, g5⟩ := id hCo
    refine V_iload_n (pc := 29) C (dk k_E_collect 17 rfl) rfl ?_
    refine V_aload_n (pc := 30) C (dk k_E_collect 18 rfl) rfl ?_
    refine V_geti (pc := 31) (ji := 2) C (dk k_E_collect 19 rfl) fl_E_57 hpl (by decide) rfl rfl ?_
    rw [show ρ pl = σ pl from g5 pl (by omega), e2]
    refine V_icmpge (pc := 34) C (dk k_E_collect 20 rfl) 116 rfl (by first | exact hR _ _ | with_reducible assumption | exact ⟨by omega, by omega⟩) (by first | exact hR _ _ | with_reducible assumption | exact ⟨by omega, by omega⟩) (fun h2 => ?_) (fun h2 => ?_)
    · skip
      obtain rfl : t = pN π := by omega
      refine V_aload_n (pc := 116) C (dk k_E_collect 60 rfl) rfl ?_
      refine V_iconst (pc := 117) C (dk k_E_collect 61 rfl) rfl ?_
      refine V_puti (pc := 118) (ji := 6) C (dk k_E_collect 62 rfl) fl_E_35 fw_1_6 kq_122 (by decide) rfl rfl ⟨by decide, by decide⟩ ?_
      refine V_R (fun hR => ?_)
      refine V_iconst (pc := 121) C (dk k_E_collect 63 rfl) rfl ?_
      refine V_istore_n (pc := 122) C (dk k_E_collect 64 rfl) (by rw [hXN]; decide) ?_
      dsimp only [lst, lstL, lz, kill, Fin.val, Nat.reduceAdd]
      refine V_eq (V_loop (fun q : Nat × Wd => q.1 ≤ 5 ∧ q.2 122 6 = swW (qO π x) q.1 ∧ (∀ u : Nat, u < q.1 → q.2 125 u = swW (qO π x) u) ∧ (∀ (k : Nat) (i : Int), k ≠ 125 → ¬ (k = 122 ∧ i = 6) → q.2 k i = ρ k i) ∧ Fr 122 6 σ q.2) (fun q => [some (vR 122), some (vR pl), some (vR 19), some (vI (q.1 : Int)), none]) (fun q => q.2) (fun q => 5 - q.1) (fun q hq ih2 => ?_) (0, up ρ 122 6 1) ⟨Nat.zero_le _, (show up ρ 122 6 1 122 6 = ((swW (qO π x) 0 : Nat) : Int) from up_at _ _ _ _), fun u a => by dsimp only at a; omega, fun k i a b => up_off _ _ b, g5.up _ _ (by omega) (by omega)⟩) rfl rfl rfl
      obtain ⟨p, ρ2⟩ := q
      obtain ⟨hp2, w1, w2, w3, w4⟩ := hq
      dsimp only at hp2 w1 w2 w3 w4 ih2 ⊢
      refine V_R (fun hR => ?_)
      have wl := swW_le (qO π x) (p := p) hp2
      have w0 := swW_0 (qO π x) p
      refine V_iload_n (pc := 123) C (dk k_E_collect 65 rfl) rfl ?_
      refine V_iconst (pc := 124) C (dk k_E_collect 66 rfl) rfl ?_
      refine V_icmpge (pc := 125) C (dk k_E_collect 67 rfl) 165 rfl (by first | exact hR _ _ | with_reducible assumption | exact ⟨by omega, by omega⟩) (by first | exact hR _ _ | with_reducible assumption | exact ⟨by omega, by omega⟩) (fun h3 => ?_) (fun h3 => ?_)
      · skip
        refine V_vret (pc := 165) C E (dk k_E_collect 87 rfl) ?_
        obtain rfl : p = 5 := by omega
        exact ⟨rfl, ⟨fun p a => ⟨w2 p a, (w3 124 p (by decide) (by omega)).trans (g1 p a)⟩, (w3 122 5 (by decide) (by omega)).trans g2, w1, fun i u e => (w3 123 i (by decide) (by omega)).trans (g3 i u e)⟩, fun u a b => (w3 127 u (by decide) (by omega)).trans (g4 u a b), w4⟩
      · skip
        have wl1 := swW_le (qO π x) (p := p + 1) (by omega)
        have hw1 : ((swW (qO π x) p : Nat) : Int) * (((qO π x p : Nat) : Int) + 1) = ((swW (qO π x) (p + 1) : Nat) : Int) := by rw [swW, Int.natCast_mul]; rfl
        refine V_aload_n (pc := 128) C (dk k_E_collect 68 rfl) rfl ?_
        refine V_getr (pc := 129) (o2 := 125) C (dk k_E_collect 69 rfl) fl_E_18 kq_122 (by decide) rfl (by decide) rfl ?_
        refine V_iload_n (pc := 132) C (dk k_E_collect 70 rfl) rfl ?_
        refine V_aload_n (pc := 133) C (dk k_E_collect 71 rfl) rfl ?_
        refine V_geti (pc := 134) (ji := 6) C (dk k_E_collect 72 rfl) fl_E_35 kq_122 (by decide) rfl rfl ?_
        rw [w1]
        refine V_callS0 (pc := 137) C (dk k_E_collect 73 rfl) lk_E_31 cm_F_put sm_F_put (c_put _ _ _ (125) 5 (p : Int) (swW (qO π x) p : Int) kq_125 (by decide) (by omega) (by omega) ⟨by omega, by omega⟩) rfl rfl (Nat.le_of_ble_eq_true rfl) (Rm.mono hRm (by decide) (by decide)) ?_
        refine V_R (fun hR => ?_)
        refine V_aload_n (pc := 140) C (dk k_E_collect 74 rfl) rfl ?_
        refine V_dupR (pc := 141) C (dk k_E_collect 75 rfl) ?_
        refine V_geti (pc := 142) (ji := 6) C (dk k_E_collect 76 rfl) fl_E_35 kq_122 (by decide) rfl rfl ?_
        refine V_aload_n (pc := 145) C (dk k_E_collect 77 rfl) rfl ?_
        refine V_getr (pc := 146) (o2 := 124) C (dk k_E_collect 78 rfl) fl_E_15 kq_122 (by decide) rfl (by decide) rfl ?_
        refine V_iload_n (pc := 149) C (dk k_E_collect 79 rfl) rfl ?_
        refine V_callS (pc := 150) C (dk k_E_collect 80 rfl) lk_E_43 cm_F_at sm_F_at (c_at _ _ _ (124) 5 (p : Int) kq_124 (by decide) (by omega) (by omega)) rfl rfl (Nat.le_of_ble_eq_true rfl) (Rm.mono hRm (by decide) (by decide)) ?_
        rw [show up ρ2 125 (p : Int) (swW (qO π x) p : Int) 124 (p : Int) = ((qO π x p : Nat) : Int) from (up_ne1 _ _ _ _ (by decide)).trans ((w3 124 _ (by decide) (by omega)).trans (g1 p (by omega))), show up ρ2 125 (p : Int) (swW (qO π x) p : Int) 122 6 = ((swW (qO π x) p : Nat) : Int) from (up_ne1 _ _ _ _ (by decide)).trans w1]
        refine V_iconst (pc := 153) C (dk k_E_collect 81 rfl) rfl ?_
        refine V_iadd (pc := 154) C (dk k_E_collect 82 rfl) ?_
        refine V_imul (pc := 155) C (dk k_E_collect 83 rfl) ?_
        rw [hw1]
        refine V_puti (pc := 156) (ji := 6) C (dk k_E_collect 84 rfl) fl_E_35 fw_1_6 kq_122 (by decide) rfl rfl ⟨by omega, by omega⟩ ?_
        refine V_R (fun hR => ?_)
        refine V_iinc (pc := 159) C (dk k_E_collect 85 rfl) (by rw [hXN]; decide) rfl ?_
        dsimp only [lst, lstL, lz, kill, Fin.val, Nat.reduceAdd]
        refine V_goto (pc := 162) C (dk k_E_collect 86 rfl) 123 rfl ?_
        refine ih2 (p + 1, up (up ρ2 125 (p : Int) (swW (qO π x) p : Int)) 122 6 (swW (qO π x) (p + 1) : Int)) ⟨by dsimp only; omega, (show up (up ρ2 125 (p : Int) (swW (qO π x) p : Int)) 122 6 (swW (qO π x) (p + 1) : Int) 122 6 = ((swW (qO π x) (p + 1) : Nat) : Int) from up_at _ _ _ _), fun u a => ?_, fun k i a b => (up_off _ _ b).trans ((up_ne1 _ _ _ _ a).trans (w3 k i a b)), (w4.up _ _ (by omega) (by omega)).up _ _ (by omega) (by omega)⟩ (by dsimp only; omega)
        dsimp only at a ⊢
        rw [up_ne1 _ _ _ _ (by decide)]
        by_cases hu : u = p
        · subst hu; exact up_at _ _ _ _
        · rw [up_ne2 _ (by omega)]; exact w2 u (by omega)
    · skip
      obtain ⟨gN, gP⟩ := fT t (by omega) (by omega)
      obtain ⟨gO, gK, gU⟩ := eT t (by omega) (by omega)
      obtain ⟨kO0, kO1, kK0, kK1, kU0, kU1⟩ := kT t (by omega) (by omega)
      obtain ⟨xN0, xN1, xP0, xP1, xPN⟩ := xT t (by omega) (by omega)
      obtain ⟨o, ho⟩ : ∃ o : Nat, pO π t = o := ⟨(pO π t).toNat, by omega⟩
      have hml := swM_len x t
      have hq5 := swQ_s (π := π) (x := x) t (fun u a => by have := kT u (by omega) (by omega); omega)
      have hqo := s5_1 (r := swQ π x t) (p := o) (by omega)
      refine V_aload_n (pc := 37) C (dk k_E_collect 21 rfl) rfl ?_
      refine V_getr (pc := 38) (o2 := 127) C (dk k_E_collect 22 rfl) fl_E_24 kq_122 (by decide) rfl (by decide) rfl ?_
      refine V_iload_n (pc := 41) C (dk k_E_collect 23 rfl) rfl ?_
      refine V_bipush (pc := 42) (n' := (-4)) C (dk k_E_collect 24 rfl) rfl ?_
      refine V_callS0 (pc := 44) C (dk k_E_collect 25 rfl) lk_E_31 cm_F_put sm_F_put (c_put _ _ _ (127) 8 (t : Int) (-4) kq_127 (by decide) (by omega) (by omega) ⟨by decide, by decide⟩) rfl rfl (Nat.le_of_ble_eq_true rfl) (Rm.mono hRm (by decide) (by decide)) ?_
      refine V_R (fun hR => ?_)
      refine V_aload_n (pc := 47) C (dk k_E_collect 26 rfl) rfl ?_
      refine V_getr (pc := 48) (o2 := 23) C (dk k_E_collect 27 rfl) fl_E_62 kq_19 (by decide) rfl (by decide) rfl ?_
      refine V_iload_n (pc := 51) C (dk k_E_collect 28 rfl) rfl ?_
      refine V_callS (pc := 52) C (dk k_E_collect 29 rfl) lk_E_43 cm_F_at sm_F_at (c_at _ _ _ (23) 8 (t : Int) kq_23 (by decide) (by omega) (by omega)) rfl rfl (Nat.le_of_ble_eq_true rfl) (Rm.mono hRm (by decide) (by decide)) ?_
      rw [show up ρ 127 (t : Int) (-4) 23 (t : Int) = sP x t from (up_ne1 _ _ _ _ (by decide)).trans ((congrFun (g5 23 (by omega)) _).trans gP)]
      refine V_ifne (pc := 55) C (dk k_E_collect 30 rfl) 110 rfl (by first | exact hR _ _ | with_reducible assumption | exact ⟨by omega, by omega⟩) (fun h4 => ?_) (fun h4 => ?_)
      · skip
        refine V_iinc (pc := 110) C (dk k_E_collect 58 rfl) (by rw [hXN]; decide) rfl ?_
        dsimp only [lst, lstL, lz, kill, Fin.val, Nat.reduceAdd]
        refine V_goto (pc := 113) C (dk k_E_collect 59 rfl) 29 rfl ?_
        refine V_fg 4 ?_
        dsimp only [fg]
        first | exact ih (t + 1, _) ⟨by dsimp only; omega, hCo.nt (by assumption)⟩ (by dsimp only; omega) | exact ih (t + 1, _) ⟨by dsimp only; omega, hCo.yes (by assumption) ho⟩ (by dsimp only; omega)
      · skip
        refine V_aload_n (pc := 58) C (dk k_E_collect 31 rfl) rfl ?_
        refine V_getr (pc := 59) (o2 := 123) C (dk k_E_collect 32 rfl) fl_E_9 kq_122 (by decide) rfl (by decide) rfl ?_
        refine V_aload_n (pc := 62) C (dk k_E_collect 33 rfl) rfl ?_
        refine V_geti (pc := 63) (ji := 5) C (dk k_E_collect 34 rfl) fl_E_54 kq_122 (by decide) rfl rfl ?_
        rw [show up ρ 127 (t : Int) (-4) 122 5 = ((swM x t).length : Int) from (up_ne1 _ _ _ _ (by decide)).trans g2]
        refine V_iload_n (pc := 66) C (dk k_E_collect 35 rfl) rfl ?_
        refine V_callS0 (pc := 67) C (dk k_E_collect 36 rfl) lk_E_31 cm_F_put sm_F_put (c_put _ _ _ (123) 8 ((swM x t).length : Int) (t : Int) kq_123 (by decide) (by omega) (by omega) ⟨by omega, by omega⟩) rfl rfl (Nat.le_of_ble_eq_true rfl) (Rm.mono hRm (by decide) (by decide)) ?_
        refine V_R (fun hR => ?_)
        refine V_aload_n (pc := 70) C (dk k_E_collect 37 rfl) rfl ?_
        refine V_dupR (pc := 71) C (dk k_E_collect 38 rfl) ?_
        refine V_geti (pc := 72) (ji := 5) C (dk k_E_collect 39 rfl) fl_E_54 kq_122 (by decide) rfl rfl ?_
        rw [show up (up ρ 127 (t : Int) (-4)) 123 ((swM x t).length : Int) (t : Int) 122 5 = ((swM x t).length : Int) from (up_ne1 _ _ _ _ (by decide)).trans ((up_ne1 _ _ _ _ (by decide)).trans g2)]
        refine V_iconst (pc := 75) C (dk k_E_collect 40 rfl) rfl ?_
        refine V_iadd (pc := 76) C (dk k_E_collect 41 rfl) ?_
        refine V_puti (pc := 77) (ji := 5) C (dk k_E_collect 42 rfl) fl_E_54 fw_1_5 kq_122 (by decide) rfl rfl ⟨by omega, by omega⟩ ?_
        refine V_R (fun hR => ?_)
        refine V_aload_n (pc := 80) C (dk k_E_collect 43 rfl) rfl ?_
        refine V_getr (pc := 81) (o2 := pl + 2) C (dk k_E_collect 44 rfl) fl_E_67 hpl (by decide) rfl (by decide) rfl ?_
        refine V_iload_n (pc := 84) C (dk k_E_collect 45 rfl) rfl ?_
        refine V_callS (pc := 85) C (dk k_E_collect 46 rfl) lk_E_43 cm_F_at sm_F_at (c_at _ _ _ (pl + 2) 8 (t : Int) hpl_2 (by decide) (by omega) (by omega)) rfl rfl (Nat.le_of_ble_eq_true rfl) (Rm.mono hRm (by decide) (by decide)) ?_
        rw [show up (up (up ρ 127 (t : Int) (-4)) 123 ((swM x t).length : Int) (t : Int)) 122 5 (((swM x t).length : Int) + 1) (pl + 2) (t : Int) = (o : Int) from (up_ne1 _ _ _ _ (by omega)).trans ((up_ne1 _ _ _ _ (by omega)).trans ((up_ne1 _ _ _ _ (by omega)).trans ((congrFun (g5 (pl + 2) (by omega)) _).trans (gO.trans ho))))]
        refine V_istore (pc := 88) C (dk k_E_collect 47 rfl) (by rw [hXN]; decide) ?_
        dsimp only [lst, lstL, lz, kill, Fin.val, Nat.reduceAdd]
        refine V_aload_n (pc := 90) C (dk k_E_collect 48 rfl) rfl ?_
        refine V_getr (pc := 91) (o2 := 124) C (dk k_E_collect 49 rfl) fl_E_15 kq_122 (by decide) rfl (by decide) rfl ?_
        refine V_iload (pc := 94) C (dk k_E_collect 50 rfl) rfl ?_
        refine V_aload_n (pc := 96) C (dk k_E_collect 51 rfl) rfl ?_
        refine V_getr (pc := 97) (o2 := 124) C (dk k_E_collect 52 rfl) fl_E_15 kq_122 (by decide) rfl (by decide) rfl ?_
        refine V_iload (pc := 100) C (dk k_E_collect 53 rfl) rfl ?_
        refine V_callS (pc := 102) C (dk k_E_collect 54 rfl) lk_E_43 cm_F_at sm_F_at (c_at _ _ _ (124) 5 (o : Int) kq_124 (by decide) (by omega) (by omega)) rfl rfl (Nat.le_of_ble_eq_true rfl) (Rm.mono hRm (by decide) (by decide)) ?_
        rw [show up (up (up ρ 127 (t : Int) (-4)) 123 ((swM x t).length : Int) (t : Int)) 122 5 (((swM x t).length : Int) + 1) 124 (o : Int) = ((swQ π x t o : Nat) : Int) from (up_ne1 _ _ _ _ (by decide)).trans ((up_ne1 _ _ _ _ (by decide)).trans ((up_ne1 _ _ _ _ (by decide)).trans (g1 o (by omega))))]
        refine V_iconst (pc := 105) C (dk k_E_collect 55 rfl) rfl ?_
        refine V_iadd (pc := 106) C (dk k_E_collect 56 rfl) ?_
        refine V_callS0 (pc := 107) C (dk k_E_collect 57 rfl) lk_E_31 cm_F_put sm_F_put (c_put _ _ _ (124) 5 (o : Int) ((swQ π x t o : Nat) + 1) kq_124 (by decide) (by omega) (by omega) ⟨by omega, by omega⟩) rfl rfl (Nat.le_of_ble_eq_true rfl) (Rm.mono hRm (by decide) (by decide)) ?_
        refine V_R (fun hR => ?_)
        refine V_iinc (pc := 110) C (dk k_E_collect 58 rfl) (by rw [hXN]; decide) rfl ?_
        dsimp only [lst, lstL, lz, kill, Fin.val, Nat.reduceAdd]
        refine V_goto (pc := 113) C (dk k_E_collect 59 rfl) 29 rfl ?_
        refine V_fg 4 ?_
        dsimp only [fg]
        first | exact ih (t + 1, _) ⟨by dsimp only; omega, hCo.nt (by assumption)⟩ (by dsimp only; omega) | exact ih (t + 1, _) ⟨by dsimp only; omega, hCo.yes (by assumption) ho⟩ (by dsimp only; omega)
  · skip
    refine V_aload_n (pc := 12) C (dk k_E_collect 8 rfl) rfl ?_
    refine V_getr (pc := 13) (o2 := 124) C (dk k_E_collect 9 rfl) fl_E_15 kq_122 (by decide) rfl (by decide) rfl ?_
    refine V_iload_n (pc := 16) C (dk k_E_collect 10 rfl) rfl ?_
    refine V_iconst (pc := 17) C (dk k_E_collect 11 rfl) rfl ?_
    refine V_callS0 (pc := 18) C (dk k_E_collect 12 rfl) lk_E_31 cm_F_put sm_F_put (c_put _ _ _ (124) 5 (p : Int) 0 kq_124 (by decide) (by omega) (by omega) R0) rfl rfl (Nat.le_of_ble_eq_true rfl) (Rm.mono hRm (by decide) (by decide)) ?_
    refine V_R (fun hR => ?_)
    refine V_iinc (pc := 21) C (dk k_E_collect 13 rfl) (by rw [hXN]; decide) rfl ?_
    dsimp only [lst, lstL, lz, kill, Fin.val, Nat.reduceAdd]
    refine V_goto (pc := 24) C (dk k_E_collect 14 rfl) 7 rfl ?_
    refine ih0 (p + 1, up ρ0 124 (p : Int) 0) ⟨by dsimp only; omega, fun u a => ?_, (show up ρ0 124 (p : Int) 0 122 5 = 0 from (up_ne1 _ _ _ _ (by decide)).trans z2), z3.up _ _ (by omega) (by omega)⟩ (by dsimp only; omega)
    dsimp only at a ⊢
    by_cases hu : u = p
    · subst hu; exact up_at _ _ _ _
    · rw [up_ne2 _ (by omega)]; exact z1 u (by omega)

def i_E_giveOut : List (Nat × (Instr × Nat)) := [(0, (.aload_n 0, 1)), (1, (.getfield 35, 3)), (4, (.iconst 1, 1)), (5, (.isub, 1)), (6, (.istore_n 2, 1)), (7, (.iconst 0, 1)), (8, (.istore_n 3, 1)), (9, (.iload_n 3, 1)), (10, (.aload_n 0, 1)), (11, (.getfield 54, 3)), (14, (.if_icmp .ge 52, 3)), (17, (.aload_n 0, 1)), (18, (.getfield 9, 3)), (21, (.iload_n 3, 1)), (22, (.invokestatic 43, 3)), (25, (.istore 4, 2)), (27, (.aload_n 0, 1)), (28, (.aload_n 1, 1)), (29, (.iload 4, 2)), (31, (.iload_n 2, 1)), (32, (.invokevirtual 94, 3)), (35, (.istore 5, 2)), (37, (.aload_n 0, 1)), (38, (.getfield 24, 3)), (41, (.iload 4, 2)), (43, (.iload 5, 2)), (45, (.invokestatic 31, 3)), (48, (.iload_n 2, 1)), (49, (.aload_n 0, 1)), (50, (.getfield 18, 3)), (53, (.iload 5, 2)), (55, (.invokestatic 43, 3)), (58, (.isub, 1)), (59, (.istore_n 2, 1)), (60, (.iinc 3 1, 3)), (63, (.goto (-54), 3)), (66, (.return_, 1))]
theorem k_E_giveOut : i_E_giveOut.all (fun q => decide (decode b_E_giveOut q.1 = .ok q.2)) = true := by decide +kernel

set_option maxHeartbeats 2000000 in
set_option maxRecDepth 20000 in
theorem c_E_giveOut (l : Launch) (G : GE) (σ : Wd) (pl : Nat) (π : PL) (q : Nat → Nat) (ms : List Nat) (hE : ExR σ q ms) (hK : ExK π q ms) (hπ : PlR σ pl π) (ok : PLok π) (htab : ∀ c : Nat, c < swW q 5 → σ 126 c = swT π q ms c) (h127 : ∀ u : Int, 0 ≤ u → u < pN π → σ 127 u = -4) : Ct l G y_E_giveOut b_E_giveOut 6 (none) 4 93 [vR 122, vR pl] σ (Rt none (fun σ' => (∀ u : Int, 0 ≤ u → u < pN π → σ' 127 u = swa ms (swg π ms q) u) ∧ (∀ k, k ≠ 127 → σ' k = σ k))) := by
  refine Ct.of cm_E_giveOut (Nat.le_of_ble_eq_true rfl) ?_
  intro X hXl hXG hXN hRm C E
  subst hXl; subst hXG
  show V X 0 [some (vR 122), some (vR pl), none, none, none, none] [] σ
  refine V_R (fun hR => ?_)
  obtain ⟨E1, E2, E3, E4⟩ := id hE
  obtain ⟨K1, K2, K3, K4, K5, K6, K7⟩ := id hK
  have hπ0 := hπ
  obtain ⟨hpl, e0, e2, e7, e10, eT, eX⟩ := hπ
  obtain ⟨hpl_1, hpl_2, hpl_3, hpl_4, hpl_5, hpl_6⟩ := kd_P hpl
  have ⟨k1, k2, k3, k4, k5, k6, kT, kX⟩ := ok
  have p512 := kd5 hpl
  have wp5 := swW_0 q 5
  refine V_aload_n (pc := 0) C (dk k_E_giveOut 0 rfl) rfl ?_
  refine V_geti (pc := 1) (ji := 6) C (dk k_E_giveOut 1 rfl) fl_E_35 kq_122 (by decide) rfl rfl ?_
  refine V_iconst (pc := 4) C (dk k_E_giveOut 2 rfl) rfl ?_
  refine V_isub (pc := 5) C (dk k_E_giveOut 3 rfl) ?_
  rw [E3, show ((swW q 5 : Nat) : Int) - 1 = ((swW q 5 - 1 : Nat) : Int) by omega]
  refine V_istore_n (pc := 6) C (dk k_E_giveOut 4 rfl) (by rw [hXN]; decide) ?_
  dsimp only [lst, lstL, lz, kill, Fin.val, Nat.reduceAdd]
  refine V_iconst (pc := 7) C (dk k_E_giveOut 5 rfl) rfl ?_
  refine V_istore_n (pc := 8) C (dk k_E_giveOut 6 rfl) (by rw [hXN]; decide) ?_
  dsimp only [lst, lstL, lz, kill, Fin.val, Nat.reduceAdd]
  refine V_eq (V_loop (fun z : Nat × (Wd × Nat) => z.1 ≤ ms.length ∧ z.2.2 < swW q 5 ∧ s5 (swD q z.2.2) = ms.length - z.1 ∧ GvJ z.2.1 π ms (swg π ms q) (ms.drop z.1) (swg π (ms.drop z.1) (swD q z.2.2)) ∧ (∀ k, k ≠ 127 → z.2.1 k = σ k)) (fun z => [some (vR 122), some (vR pl), some (vI (z.2.2 : Int)), some (vI (z.1 : Int)), none, none]) (fun z => z.2.1) (fun z => ms.length - z.1) (fun z hz ih => ?_) (0, (σ, swW q 5 - 1)) ⟨Nat.zero_le _, by dsimp only; omega, by dsimp only; rw [s5_cg (fun p a => swD_t a), K1]; rfl, by dsimp only; rw [List.drop_zero, swg_cg π ms _ _ (fun p a => swD_t a)]; exact GvJ.z ms _ h127, fun _ _ => rfl⟩) rfl rfl rfl
  obtain ⟨i, ρ, c⟩ := z
  obtain ⟨hi, hc, hs0, hJ, hfr⟩ := hz
  dsimp only at hi hc hs0 hJ hfr ih ⊢
  refine V_R (fun hR => ?_)
  refine V_iload_n (pc := 9) C (dk k_E_giveOut 7 rfl) rfl ?_
  refine V_aload_n (pc := 10) C (dk k_E_giveOut 8 rfl) rfl ?_
  refine V_geti (pc := 11) (ji := 5) C (dk k_E_giveOut 9 rfl) fl_E_54 kq_122 (by decide) rfl rfl ?_
  rw [show ρ 122 = σ 122 from hfr 122 (by decide), E2]
  refine V_icmpge (pc := 14) C (dk k_E_giveOut 10 rfl) 66 rfl (by first | exact hR _ _ | with_reducible assumption | exact ⟨by omega, by omega⟩) (by first | exact hR _ _ | with_reducible assumption | exact ⟨by omega, by omega⟩) (fun h1 => ?_) (fun h1 => ?_)
  · skip
    refine V_vret (pc := 66) C E (dk k_E_giveOut 36 rfl) ?_
    obtain rfl : i = ms.length := by omega
    refine ⟨rfl, fun u a b => (hJ u a b).2 (fun v hv => ?_), hfr⟩
    rw [List.drop_length] at hv
    exact absurd hv List.not_mem_nil
  · skip
    obtain ⟨t, ts, hda0⟩ := drop_ex (l := ms) (n := i) (by omega)
    have hda := drop_at hda0
    have hd2 : ms.drop (ms.length - s5 (swD q c)) = t :: ts := by rw [hs0, show ms.length - (ms.length - i) = i by omega]; exact hda0
    have hlt := congrArg List.length hda0
    rw [List.length_drop, List.length_cons] at hlt
    have hs : s5 (swD q c) = ts.length + 1 := by omega
    have hmt : ∀ u ∈ (t :: ts), u ∈ ms := fun u hu => drop_mem (by rw [hda0]; exact hu)
    have htm := hmt t List.mem_cons_self
    have hU : swU π (t :: ts) := fun u hu => K4 u (hmt u hu)
    have htn := K5 t htm
    have hEρ : ExR ρ q ms := hE.fx (fun k i a => congrFun (hfr k (by omega)) i)
    have htc : ρ 126 c = swL π (t :: ts) (swD q c) := (congrFun (hfr 126 (by decide)) _).trans ((htab c hc).trans (by unfold swT; rw [hd2]))
    obtain ⟨pp, hpp⟩ : ∃ pp, pp = (swf (swC π t ts (swD q c)) (swD q c) (swL π (t :: ts) (swD q c)) 5 0) := ⟨_, rfl⟩
    obtain ⟨P1, P2, P3, P4⟩ := swf_s (c := swC π t ts (swD q c)) (r := swD q c) (v := swL π (t :: ts) (swD q c)) (swL_I hU hs).1
    rw [← hpp] at P1 P2
    have wpp := swD_W P2
    have wp0 := swW_0 q pp
    refine V_aload_n (pc := 17) C (dk k_E_giveOut 11 rfl) rfl ?_
    refine V_getr (pc := 18) (o2 := 123) C (dk k_E_giveOut 12 rfl) fl_E_9 kq_122 (by decide) rfl (by decide) rfl ?_
    refine V_iload_n (pc := 21) C (dk k_E_giveOut 13 rfl) rfl ?_
    refine V_callS (pc := 22) C (dk k_E_giveOut 14 rfl) lk_E_43 cm_F_at sm_F_at (c_at _ _ _ (123) 8 (i : Int) kq_123 (by decide) (by omega) (by omega)) rfl rfl (Nat.le_of_ble_eq_true rfl) (Rm.mono hRm (by decide) (by decide)) ?_
    rw [show ρ 123 = σ 123 from hfr 123 (by decide), E4 i t hda.1]
    refine V_istore (pc := 25) C (dk k_E_giveOut 15 rfl) (by rw [hXN]; decide) ?_
    dsimp only [lst, lstL, lz, kill, Fin.val, Nat.reduceAdd]
    refine V_aload_n (pc := 27) C (dk k_E_giveOut 16 rfl) rfl ?_
    refine V_aload_n (pc := 28) C (dk k_E_giveOut 17 rfl) rfl ?_
    refine V_iload (pc := 29) C (dk k_E_giveOut 18 rfl) rfl ?_
    refine V_iload_n (pc := 31) C (dk k_E_giveOut 19 rfl) rfl ?_
    refine V_callV (pc := 32) C (dk k_E_giveOut 20 rfl) lk_E_94 cm_E_firstBest vm_E_firstBest (c_E_firstBest _ _ _ pl π q ms hEρ hK c t ts (hπ0.fr (fun k a b => hfr k (by omega))) ok hc hd2 hs htm hU (fun c2 a => (congrFun (hfr 126 (by decide)) _).trans (htab c2 (by omega))) htc) kq_122 rfl rfl rfl (Nat.le_of_ble_eq_true rfl) (Rm.mono hRm (by decide) (by decide)) ?_
    rw [← hpp]
    refine V_istore (pc := 35) C (dk k_E_giveOut 21 rfl) (by rw [hXN]; decide) ?_
    dsimp only [lst, lstL, lz, kill, Fin.val, Nat.reduceAdd]
    refine V_aload_n (pc := 37) C (dk k_E_giveOut 22 rfl) rfl ?_
    refine V_getr (pc := 38) (o2 := 127) C (dk k_E_giveOut 23 rfl) fl_E_24 kq_122 (by decide) rfl (by decide) rfl ?_
    refine V_iload (pc := 41) C (dk k_E_giveOut 24 rfl) rfl ?_
    refine V_iload (pc := 43) C (dk k_E_giveOut 25 rfl) rfl ?_
    refine V_callS0 (pc := 45) C (dk k_E_giveOut 26 rfl) lk_E_31 cm_F_put sm_F_put (c_put _ _ _ (127) 8 (t : Int) (pp : Int) kq_127 (by decide) (by omega) (by omega) ⟨by omega, by omega⟩) rfl rfl (Nat.le_of_ble_eq_true rfl) (Rm.mono hRm (by decide) (by decide)) ?_
    refine V_R (fun hR => ?_)
    refine V_iload_n (pc := 48) C (dk k_E_giveOut 27 rfl) rfl ?_
    refine V_aload_n (pc := 49) C (dk k_E_giveOut 28 rfl) rfl ?_
    refine V_getr (pc := 50) (o2 := 125) C (dk k_E_giveOut 29 rfl) fl_E_18 kq_122 (by decide) rfl (by decide) rfl ?_
    refine V_iload (pc := 53) C (dk k_E_giveOut 30 rfl) rfl ?_
    refine V_callS (pc := 55) C (dk k_E_giveOut 31 rfl) lk_E_43 cm_F_at sm_F_at (c_at _ _ _ (125) 5 (pp : Int) kq_125 (by decide) (by omega) (by omega)) rfl rfl (Nat.le_of_ble_eq_true rfl) (Rm.mono hRm (by decide) (by decide)) ?_
    rw [show up ρ 127 (t : Int) (pp : Int) 125 (pp : Int) = ((swW q pp : Nat) : Int) from (up_ne1 _ _ _ _ (by decide)).trans ((congrFun (hfr 125 (by decide)) _).trans (E1 pp P1).1)]
    refine V_isub (pc := 58) C (dk k_E_giveOut 32 rfl) ?_
    refine V_istore_n (pc := 59) C (dk k_E_giveOut 33 rfl) (by rw [hXN]; decide) ?_
    dsimp only [lst, lstL, lz, kill, Fin.val, Nat.reduceAdd]
    refine V_iinc (pc := 60) C (dk k_E_giveOut 34 rfl) (by rw [hXN]; decide) rfl ?_
    dsimp only [lst, lstL, lz, kill, Fin.val, Nat.reduceAdd]
    refine V_goto (pc := 63) C (dk k_E_giveOut 35 rfl) 9 rfl ?_
    refine V_fg 4 ?_
    dsimp only [fg]
    refine V_fg 5 ?_
    dsimp only [fg]
    refine V_eq (ih (i + 1, (up ρ 127 (t : Int) (pp : Int), c - swW q pp)) ⟨by dsimp only; omega, by dsimp only; omega, ?_, ?_, fun k a => (up_row _ _ _ a).trans (hfr k a)⟩ (by dsimp only; omega)) ?_ rfl rfl
    · dsimp only; rw [swD_d P2]; have := s5_d P1 P2; omega
    · dsimp only; rw [swD_d P2, hda.2.1]; rw [hda0, swg, ← hpp] at hJ; exact hJ.s (fun v hv => Nat.ne_of_lt (drop_lt K6 hda0 v hv))
    · dsimp only; rw [show ((c - swW q pp : Nat) : Int) = (c : Int) - ((swW q pp : Nat) : Int) by omega]; rfl

def i_E_arrange : List (Nat × (Instr × Nat)) := [(0, (.aload_n 0, 1)), (1, (.aload_n 1, 1)), (2, (.aload_n 2, 1)), (3, (.invokevirtual 27, 3)), (6, (.aload_n 0, 1)), (7, (.getfield 21, 3)), (10, (.iconst 0, 1)), (11, (.iconst 0, 1)), (12, (.invokestatic 31, 3)), (15, (.iconst 1, 1)), (16, (.istore_n 3, 1)), (17, (.iload_n 3, 1)), (18, (.aload_n 0, 1)), (19, (.getfield 35, 3)), (22, (.if_icmp .ge 29, 3)), (25, (.iload_n 3, 1)), (26, (.bipush 108, 2)), (28, (.if_icmp .ge 23, 3)), (31, (.aload_n 0, 1)), (32, (.getfield 21, 3)), (35, (.iload_n 3, 1)), (36, (.aload_n 0, 1)), (37, (.aload_n 1, 1)), (38, (.iload_n 3, 1)), (39, (.invokevirtual 39, 3)), (42, (.invokestatic 31, 3)), (45, (.iinc 3 1, 3)), (48, (.goto (-31), 3)), (51, (.aload_n 0, 1)), (52, (.aload_n 0, 1)), (53, (.getfield 21, 3)), (56, (.aload_n 0, 1)), (57, (.getfield 35, 3)), (60, (.iconst 1, 1)), (61, (.isub, 1)), (62, (.invokestatic 43, 3)), (65, (.putfield 47, 3)), (68, (.aload_n 0, 1)), (69, (.aload_n 1, 1)), (70, (.invokevirtual 50, 3)), (73, (.return_, 1))]
theorem k_E_arrange : i_E_arrange.all (fun q => decide (decode b_E_arrange q.1 = .ok q.2)) = true := by decide +kernel

set_option maxHeartbeats 2000000 in
set_option maxRecDepth 20000 in
theorem c_E_arrange (l : Launch) (G : GE) (σ : Wd) (pl : Nat) (π : PL) (hπ : PlR σ pl π) (ok : PLok π) (x : ST) (j : Int) (hx : StR σ 19 π x) (xk : STok π x j) (hj : j ≤ 200) : Ct l G y_E_arrange b_E_arrange 4 (none) 5 118 [vR 122, vR pl, vR 19] σ (Rt none (fun σ' => σ' 122 7 = swL π (msO π x) (qO π x) ∧ (∀ u : Int, 0 ≤ u → u < pN π → σ' 127 u = swa (msO π x) (swg π (msO π x) (qO π x)) u) ∧ Fr 122 6 σ σ')) := by
  refine Ct.of cm_E_arrange (Nat.le_of_ble_eq_true rfl) ?_
  intro X hXl hXG hXN hRm C E
  subst hXl; subst hXG
  show V X 0 [some (vR 122), some (vR pl), some (vR 19), none] [] σ
  refine V_R (fun hR => ?_)
  have hpl := hπ.1
  have p512 := kd5 hpl
  obtain ⟨q, hq⟩ : ∃ q, q = qO π x := ⟨_, rfl⟩
  obtain ⟨ms, hms⟩ : ∃ ms, ms = msO π x := ⟨_, rfl⟩
  have hK : ExK π q ms := by rw [hq, hms]; exact ExK.of ok x
  obtain ⟨K1, K2, K3, K4, K5, K6, K7⟩ := id hK
  have wp5 := swW_0 q 5
  have hTb := swT_b hK
  refine V_aload_n (pc := 0) C (dk k_E_arrange 0 rfl) rfl ?_
  refine V_aload_n (pc := 1) C (dk k_E_arrange 1 rfl) rfl ?_
  refine V_aload_n (pc := 2) C (dk k_E_arrange 2 rfl) rfl ?_
  refine V_callV0r (pc := 3) C (dk k_E_arrange 3 rfl) lk_E_27 cm_E_collect vm_E_collect (c_E_collect _ _ _ pl π hπ ok x j hx xk hj) kq_122 rfl rfl rfl (Nat.le_of_ble_eq_true rfl) (Rm.mono hRm (by decide) (by decide)) (fun τ1 hq1 => ?_)
  refine V_R (fun hR => ?_)
  obtain ⟨q1, q2, q3⟩ := hq1
  rw [← hq, ← hms] at q1
  obtain ⟨E1, E2, E3, E4⟩ := id q1
  refine V_aload_n (pc := 6) C (dk k_E_arrange 4 rfl) rfl ?_
  refine V_getr (pc := 7) (o2 := 126) C (dk k_E_arrange 5 rfl) fl_E_21 kq_122 (by decide) rfl (by decide) rfl ?_
  refine V_iconst (pc := 10) C (dk k_E_arrange 6 rfl) rfl ?_
  refine V_iconst (pc := 11) C (dk k_E_arrange 7 rfl) rfl ?_
  refine V_callS0 (pc := 12) C (dk k_E_arrange 8 rfl) lk_E_31 cm_F_put sm_F_put (c_put _ _ _ (126) 108 0 0 kq_126 (by decide) (by omega) (by omega) R0) rfl rfl (Nat.le_of_ble_eq_true rfl) (Rm.mono hRm (by decide) (by decide)) ?_
  refine V_R (fun hR => ?_)
  refine V_iconst (pc := 15) C (dk k_E_arrange 9 rfl) rfl ?_
  refine V_istore_n (pc := 16) C (dk k_E_arrange 10 rfl) (by rw [hXN]; decide) ?_
  dsimp only [lst, lstL, lz, kill, Fin.val, Nat.reduceAdd]
  refine V_eq (V_loop (fun z : Nat × Wd => 1 ≤ z.1 ∧ z.1 ≤ swW q 5 ∧ (∀ c2 : Nat, c2 < z.1 → z.2 126 c2 = swT π q ms c2) ∧ (∀ k, k ≠ 126 → z.2 k = τ1 k)) (fun z => [some (vR 122), some (vR pl), some (vR 19), some (vI (z.1 : Int))]) (fun z => z.2) (fun z => swW q 5 - z.1) (fun z hz ih => ?_) (1, up τ1 126 0 0) ⟨Nat.le_refl 1, by dsimp only; omega, fun c2 a => ?_, fun k a => up_row _ _ _ a⟩) rfl rfl rfl
  rotate_left
  · dsimp only at a ⊢
    obtain rfl : c2 = 0 := by omega
    have e0 : s5 (swD q 0) = 0 := by rw [s5_e]; unfold swD; simp
    show up τ1 126 0 0 126 0 = _
    rw [up_at]; unfold swT; rw [e0, Nat.sub_zero, List.drop_length]; rfl
  obtain ⟨c, ρ⟩ := z
  obtain ⟨hc1, hc2, htb, hfr⟩ := hz
  dsimp only at hc1 hc2 htb hfr ih ⊢
  refine V_R (fun hR => ?_)
  have hEρ : ExR ρ q ms := q1.fx (fun k i a => congrFun (hfr k (by omega)) i)
  have hπρ : PlR ρ pl π := hπ.fr (fun k a b => (hfr k (by omega)).trans (q3 k (by omega)))
  have r122 : ρ 122 = τ1 122 := hfr 122 (by decide)
  refine V_iload_n (pc := 17) C (dk k_E_arrange 11 rfl) rfl ?_
  refine V_aload_n (pc := 18) C (dk k_E_arrange 12 rfl) rfl ?_
  refine V_geti (pc := 19) (ji := 6) C (dk k_E_arrange 13 rfl) fl_E_35 kq_122 (by decide) rfl rfl ?_
  rw [r122, E3]
  refine V_icmpge (pc := 22) C (dk k_E_arrange 14 rfl) 51 rfl (by first | exact hR _ _ | with_reducible assumption | exact ⟨by omega, by omega⟩) (by first | exact hR _ _ | with_reducible assumption | exact ⟨by omega, by omega⟩) (fun h1 => ?_) (fun h1 => ?_)
  · skip
    obtain rfl : c = swW q 5 := by omega
    have eE : swT π q ms (swW q 5 - 1) = swL π ms q := by unfold swT; rw [s5_cg (fun p a => swD_t a), K1, Nat.sub_self, List.drop_zero]; exact swL_cg π ms _ _ (fun p a => swD_t a)
    have hTe := hTb (swW q 5 - 1)
    rw [eE] at hTe
    refine V_aload_n (pc := 51) C (dk k_E_arrange 28 rfl) rfl ?_
    refine V_aload_n (pc := 52) C (dk k_E_arrange 29 rfl) rfl ?_
    refine V_getr (pc := 53) (o2 := 126) C (dk k_E_arrange 30 rfl) fl_E_21 kq_122 (by decide) rfl (by decide) rfl ?_
    refine V_aload_n (pc := 56) C (dk k_E_arrange 31 rfl) rfl ?_
    refine V_geti (pc := 57) (ji := 6) C (dk k_E_arrange 32 rfl) fl_E_35 kq_122 (by decide) rfl rfl ?_
    refine V_iconst (pc := 60) C (dk k_E_arrange 33 rfl) rfl ?_
    refine V_isub (pc := 61) C (dk k_E_arrange 34 rfl) ?_
    rw [r122, E3, show ((swW q 5 : Nat) : Int) - 1 = ((swW q 5 - 1 : Nat) : Int) by omega]
    refine V_callS (pc := 62) C (dk k_E_arrange 35 rfl) lk_E_43 cm_F_at sm_F_at (c_at _ _ _ (126) 108 ((swW q 5 - 1 : Nat) : Int) kq_126 (by decide) (by omega) (by omega)) rfl rfl (Nat.le_of_ble_eq_true rfl) (Rm.mono hRm (by decide) (by decide)) ?_
    rw [htb _ (by omega), eE]
    refine V_puti (pc := 65) (ji := 7) C (dk k_E_arrange 36 rfl) fl_E_47 fw_1_7 kq_122 (by decide) rfl rfl ⟨by omega, by omega⟩ ?_
    refine V_R (fun hR => ?_)
    refine V_aload_n (pc := 68) C (dk k_E_arrange 37 rfl) rfl ?_
    refine V_aload_n (pc := 69) C (dk k_E_arrange 38 rfl) rfl ?_
    refine V_callV0r (pc := 70) C (dk k_E_arrange 39 rfl) lk_E_50 cm_E_giveOut vm_E_giveOut (c_E_giveOut _ _ _ pl π q ms (hEρ.fx (fun k i a => up_off _ _ (by omega))) hK (hπρ.fr (fun k a b => up_row _ _ _ (by omega))) ok (fun c2 a => (up_ne1 _ _ _ _ (by decide)).trans (htb c2 (by omega))) (fun u a b => (up_ne1 _ _ _ _ (by decide)).trans ((congrFun (hfr 127 (by decide)) _).trans (q2 u a b)))) kq_122 rfl rfl rfl (Nat.le_of_ble_eq_true rfl) (Rm.mono hRm (by decide) (by decide)) (fun τ3 hq3 => ?_)
    refine V_R (fun hR => ?_)
    refine V_vret (pc := 73) C E (dk k_E_arrange 40 rfl) ?_
    rw [← hq, ← hms]
    exact ⟨rfl, (congrFun (hq3.2 122 (by decide)) _).trans (up_at _ _ _ _), hq3.1, fun k a => (hq3.2 k (by omega)).trans ((up_row _ _ _ (by omega)).trans ((hfr k (by omega)).trans (q3 k a)))⟩
  · skip
    refine V_iload_n (pc := 25) C (dk k_E_arrange 15 rfl) rfl ?_
    refine V_bipush (pc := 26) (n' := 108) C (dk k_E_arrange 16 rfl) rfl ?_
    refine V_icmpge (pc := 28) C (dk k_E_arrange 17 rfl) 51 rfl (by first | exact hR _ _ | with_reducible assumption | exact ⟨by omega, by omega⟩) (by first | exact hR _ _ | with_reducible assumption | exact ⟨by omega, by omega⟩) (fun h2 => ?_) (fun h2 => ?_)
    · skip
      obtain rfl : c = swW q 5 := by omega
      have eE : swT π q ms (swW q 5 - 1) = swL π ms q := by unfold swT; rw [s5_cg (fun p a => swD_t a), K1, Nat.sub_self, List.drop_zero]; exact swL_cg π ms _ _ (fun p a => swD_t a)
      have hTe := hTb (swW q 5 - 1)
      rw [eE] at hTe
      refine V_aload_n (pc := 51) C (dk k_E_arrange 28 rfl) rfl ?_
      refine V_aload_n (pc := 52) C (dk k_E_arrange 29 rfl) rfl ?_
      refine V_getr (pc := 53) (o2 := 126) C (dk k_E_arrange 30 rfl) fl_E_21 kq_122 (by decide) rfl (by decide) rfl ?_
      refine V_aload_n (pc := 56) C (dk k_E_arrange 31 rfl) rfl ?_
      refine V_geti (pc := 57) (ji := 6) C (dk k_E_arrange 32 rfl) fl_E_35 kq_122 (by decide) rfl rfl ?_
      refine V_iconst (pc := 60) C (dk k_E_arrange 33 rfl) rfl ?_
      refine V_isub (pc := 61) C (dk k_E_arrange 34 rfl) ?_
      rw [r122, E3, show ((swW q 5 : Nat) : Int) - 1 = ((swW q 5 - 1 : Nat) : Int) by omega]
      refine V_callS (pc := 62) C (dk k_E_arrange 35 rfl) lk_E_43 cm_F_at sm_F_at (c_at _ _ _ (126) 108 ((swW q 5 - 1 : Nat) : Int) kq_126 (by decide) (by omega) (by omega)) rfl rfl (Nat.le_of_ble_eq_true rfl) (Rm.mono hRm (by decide) (by decide)) ?_
      rw [htb _ (by omega), eE]
      refine V_puti (pc := 65) (ji := 7) C (dk k_E_arrange 36 rfl) fl_E_47 fw_1_7 kq_122 (by decide) rfl rfl ⟨by omega, by omega⟩ ?_
      refine V_R (fun hR => ?_)
      refine V_aload_n (pc := 68) C (dk k_E_arrange 37 rfl) rfl ?_
      refine V_aload_n (pc := 69) C (dk k_E_arrange 38 rfl) rfl ?_
      refine V_callV0r (pc := 70) C (dk k_E_arrange 39 rfl) lk_E_50 cm_E_giveOut vm_E_giveOut (c_E_giveOut _ _ _ pl π q ms (hEρ.fx (fun k i a => up_off _ _ (by omega))) hK (hπρ.fr (fun k a b => up_row _ _ _ (by omega))) ok (fun c2 a => (up_ne1 _ _ _ _ (by decide)).trans (htb c2 (by omega))) (fun u a b => (up_ne1 _ _ _ _ (by decide)).trans ((congrFun (hfr 127 (by decide)) _).trans (q2 u a b)))) kq_122 rfl rfl rfl (Nat.le_of_ble_eq_true rfl) (Rm.mono hRm (by decide) (by decide)) (fun τ3 hq3 => ?_)
      refine V_R (fun hR => ?_)
      refine V_vret (pc := 73) C E (dk k_E_arrange 40 rfl) ?_
      rw [← hq, ← hms]
      exact ⟨rfl, (congrFun (hq3.2 122 (by decide)) _).trans (up_at _ _ _ _), hq3.1, fun k a => (hq3.2 k (by omega)).trans ((up_row _ _ _ (by omega)).trans ((hfr k (by omega)).trans (q3 k a)))⟩
    · skip
      obtain ⟨t, ts, hd, hs, htm, hU⟩ := swT_d hK (show c ≠ 0 by omega) (by omega)
      have hTc := hTb c
      have eT : swL π (t :: ts) (swD q c) = swT π q ms c := by unfold swT; rw [hd]
      refine V_aload_n (pc := 31) C (dk k_E_arrange 18 rfl) rfl ?_
      refine V_getr (pc := 32) (o2 := 126) C (dk k_E_arrange 19 rfl) fl_E_21 kq_122 (by decide) rfl (by decide) rfl ?_
      refine V_iload_n (pc := 35) C (dk k_E_arrange 20 rfl) rfl ?_
      refine V_aload_n (pc := 36) C (dk k_E_arrange 21 rfl) rfl ?_
      refine V_aload_n (pc := 37) C (dk k_E_arrange 22 rfl) rfl ?_
      refine V_iload_n (pc := 38) C (dk k_E_arrange 23 rfl) rfl ?_
      refine V_callV (pc := 39) C (dk k_E_arrange 24 rfl) lk_E_39 cm_E_leastFrom vm_E_leastFrom (c_E_leastFrom _ _ _ pl π q ms hEρ hK c t ts hπρ ok (by omega) hd hs htm hU htb) kq_122 rfl rfl rfl (Nat.le_of_ble_eq_true rfl) (Rm.mono hRm (by decide) (by decide)) ?_
      rw [eT]
      refine V_callS0 (pc := 42) C (dk k_E_arrange 25 rfl) lk_E_31 cm_F_put sm_F_put (c_put _ _ _ (126) 108 (c : Int) (swT π q ms c) kq_126 (by decide) (by omega) (by omega) ⟨by omega, by omega⟩) rfl rfl (Nat.le_of_ble_eq_true rfl) (Rm.mono hRm (by decide) (by decide)) ?_
      refine V_R (fun hR => ?_)
      refine V_iinc (pc := 45) C (dk k_E_arrange 26 rfl) (by rw [hXN]; decide) rfl ?_
      dsimp only [lst, lstL, lz, kill, Fin.val, Nat.reduceAdd]
      refine V_goto (pc := 48) C (dk k_E_arrange 27 rfl) 17 rfl ?_
      refine ih (c + 1, up ρ 126 (c : Int) (swT π q ms c)) ⟨by dsimp only; omega, by dsimp only; omega, fun c2 a => ?_, fun k a => (up_row _ _ _ a).trans (hfr k a)⟩ (by dsimp only; omega)
      dsimp only at a ⊢
      by_cases hcc : c2 = c
      · subst hcc; exact up_at _ _ _ _
      · rw [up_ne2 _ (by omega)]; exact htb c2 (by omega)

theorem swg_b (π : PL) : ∀ (ts : List Nat) (r : Nat → Nat), swU π ts → s5 r = ts.length → ∀ u : Int, -4 ≤ swa ts (swg π ts r) u ∧ swa ts (swg π ts r) u ≤ 4
  | [], _, _, _, u => by unfold swg swa; decide
  | t :: ts, r, hU, hs, u => by
    rw [List.length_cons] at hs
    rw [swg, swa]
    obtain ⟨P1, P2, P3, P4⟩ := swf_s (c := swC π t ts r) (r := r) (v := swL π (t :: ts) r) (swL_I hU hs).1
    split
    · omega
    · exact swg_b π ts _ (fun v q => hU v (List.mem_cons_of_mem _ q)) (by have := s5_d P1 P2; omega) u

def i_F_swap : List (Nat × (Instr × Nat)) := [(0, (.iload_n 1, 1)), (1, (.iconst (-1), 1)), (2, (.if_icmp .eq 13, 3)), (5, (.aload_n 0, 1)), (6, (.iload_n 1, 1)), (7, (.invokevirtual 128, 3)), (10, (.ifCond .ne 5, 3)), (13, (.iconst (-1), 1)), (14, (.ireturn, 1)), (15, (.aload_n 0, 1)), (16, (.getfield 70, 3)), (19, (.aload_n 0, 1)), (20, (.getfield 26, 3)), (23, (.aload_n 0, 1)), (24, (.getfield 36, 3)), (27, (.invokevirtual 223, 3)), (30, (.iload_n 1, 1)), (31, (.iconst (-1), 1)), (32, (.if_icmp .ne 13, 3)), (35, (.aload_n 0, 1)), (36, (.getfield 70, 3)), (39, (.getfield 227, 3)), (42, (.goto 14, 3)), (45, (.aload_n 0, 1)), (46, (.getfield 70, 3)), (49, (.getfield 230, 3)), (52, (.iload_n 1, 1)), (53, (.invokestatic 117, 3)), (56, (.ireturn, 1))]
theorem k_F_swap : i_F_swap.all (fun q => decide (decode b_F_swap q.1 = .ok q.2)) = true := by decide +kernel

set_option maxHeartbeats 1000000 in
set_option maxRecDepth 20000 in
theorem c_F_swap (l : Launch) (G : GE) (σ : Wd) (pl sp : Nat) (π : PL) (x : ST) (us ks : List ST) (lk : List (Int × (Int × Int))) (tx : List Int) (j : Int) (hC : CR σ pl sp π x us ks lk tx) (hV : VK π x us ks j) (hj : j ≤ 100) (t : Int) (ht : inR t) : Ct l G y_F_swap b_F_swap 2 (some (.int)) 6 141 [vR 0, vI t] σ (Rt (some (vI (o_swap π x t))) (fun σ' => CR σ' pl sp π x us ks lk tx ∧ Fc σ σ')) := by
  refine Ct.of cm_F_swap (Nat.le_of_ble_eq_true rfl) ?_
  intro X hXl hXG hXN hRm C E
  subst hXl; subst hXG
  have ⟨ht_1, ht_2⟩ := ht
  show V X 0 [some (vR 0), some (vI t)] [] σ
  refine V_R (fun hR => ?_)
  obtain ⟨hF, hsp0, hsp, hne, hx, hU, hK, hl, hT⟩ := id hC
  obtain ⟨ok, xk, usk, ksk, ks2⟩ := id hV
  have hF0 := hF
  obtain ⟨hm_pl, hπ⟩ := hF
  have hπ0 := hπ
  obtain ⟨hpl, e0, e2, e7, e10, eT, eX⟩ := hπ
  obtain ⟨hpl_1, hpl_2, hpl_3, hpl_4, hpl_5, hpl_6⟩ := kd_P hpl
  have ⟨k1, k2, k3, k4, k5, k6, kT, kX⟩ := ok
  have hx0 := hx
  obtain ⟨hs, f0, f1, fQ, fT⟩ := hx
  simp only [Nat.reduceAdd] at fQ fT
  have ⟨x1, x2, x3, x4, xQ, xT⟩ := xk
  have p512 := kd5 hpl
  have s512 := kd5 hsp
  refine V_iload_n (pc := 0) C (dk k_F_swap 0 rfl) rfl ?_
  refine V_iconst (pc := 1) C (dk k_F_swap 1 rfl) rfl ?_
  refine V_icmpeq (pc := 2) C (dk k_F_swap 2 rfl) 15 rfl (by first | exact hR _ _ | with_reducible assumption | exact ⟨by omega, by omega⟩) (by first | exact hR _ _ | with_reducible assumption | exact ⟨by omega, by omega⟩) (fun h1 => ?_) (fun h1 => ?_)
  · skip
    refine V_aload_n (pc := 15) C (dk k_F_swap 9 rfl) rfl ?_
    refine V_getr (pc := 16) (o2 := 122) C (dk k_F_swap 10 rfl) fl_F_70 kq_0 (by decide) rfl (by decide) rfl ?_
    refine V_aload_n (pc := 19) C (dk k_F_swap 11 rfl) rfl ?_
    refine V_getm (pc := 20) (o2 := pl) C (dk k_F_swap 12 rfl) fl_F_26 kq_0 (by decide) rfl hm_pl ?_
    refine V_aload_n (pc := 23) C (dk k_F_swap 13 rfl) rfl ?_
    refine V_getr (pc := 24) (o2 := 19) C (dk k_F_swap 14 rfl) fl_F_36 kq_0 (by decide) rfl (by decide) rfl ?_
    refine V_callV0r (pc := 27) C (dk k_F_swap 15 rfl) lk_F_223 cm_E_arrange vm_E_arrange (c_E_arrange _ _ _ pl π hπ0 ok x j hx0 xk (by omega)) kq_122 rfl rfl rfl (Nat.le_of_ble_eq_true rfl) (Rm.mono hRm (by decide) (by decide)) (fun τ1 hq1 => ?_)
    refine V_R (fun hR => ?_)
    refine V_iload_n (pc := 30) C (dk k_F_swap 16 rfl) rfl ?_
    refine V_iconst (pc := 31) C (dk k_F_swap 17 rfl) rfl ?_
    refine V_icmpne (pc := 32) C (dk k_F_swap 18 rfl) 45 rfl (by first | exact hR _ _ | with_reducible assumption | exact ⟨by omega, by omega⟩) (by first | exact hR _ _ | with_reducible assumption | exact ⟨by omega, by omega⟩) (fun h2 => ?_) (fun h2 => ?_)
    · skip
      refine V_aload_n (pc := 45) C (dk k_F_swap 23 rfl) rfl ?_
      refine V_getr (pc := 46) (o2 := 122) C (dk k_F_swap 24 rfl) fl_F_70 kq_0 (by decide) rfl (by decide) rfl ?_
      refine V_getr (pc := 49) (o2 := 127) C (dk k_F_swap 25 rfl) fl_F_230 kq_122 (by decide) rfl (by decide) rfl ?_
      refine V_iload_n (pc := 52) C (dk k_F_swap 26 rfl) rfl ?_
      refine V_callS (pc := 53) C (dk k_F_swap 27 rfl) lk_F_117 cm_F_at sm_F_at (c_at _ _ _ (127) 8 t kq_127 (by decide) (by omega) (by omega)) rfl rfl (Nat.le_of_ble_eq_true rfl) (Rm.mono hRm (by decide) (by decide)) ?_
      refine V_iret (pc := 56) C E (dk k_F_swap 28 rfl) ?_
      first | (rw [show o_swap π x t = swL π (msO π x) (qO π x) from if_pos (by omega)]; exact ⟨by rw [hq1.1], hC.fr (fun k a => hq1.2.2 k (by unfold scr at a; omega)), fun k a => hq1.2.2 k (by omega)⟩) | (rw [show o_swap π x t = swa (msO π x) (swg π (msO π x) (qO π x)) t by unfold o_swap; rw [if_neg (by omega), if_pos (by omega)]]; exact ⟨by rw [hq1.2.1 t (by omega) (by omega)], hC.fr (fun k a => hq1.2.2 k (by unfold scr at a; omega)), fun k a => hq1.2.2 k (by omega)⟩)
    · skip
      refine V_aload_n (pc := 35) C (dk k_F_swap 19 rfl) rfl ?_
      refine V_getr (pc := 36) (o2 := 122) C (dk k_F_swap 20 rfl) fl_F_70 kq_0 (by decide) rfl (by decide) rfl ?_
      refine V_geti (pc := 39) (ji := 7) C (dk k_F_swap 21 rfl) fl_F_227 kq_122 (by decide) rfl rfl ?_
      refine V_goto (pc := 42) C (dk k_F_swap 22 rfl) 56 rfl ?_
      refine V_iret (pc := 56) C E (dk k_F_swap 28 rfl) ?_
      first | (rw [show o_swap π x t = swL π (msO π x) (qO π x) from if_pos (by omega)]; exact ⟨by rw [hq1.1], hC.fr (fun k a => hq1.2.2 k (by unfold scr at a; omega)), fun k a => hq1.2.2 k (by omega)⟩) | (rw [show o_swap π x t = swa (msO π x) (swg π (msO π x) (qO π x)) t by unfold o_swap; rw [if_neg (by omega), if_pos (by omega)]]; exact ⟨by rw [hq1.2.1 t (by omega) (by omega)], hC.fr (fun k a => hq1.2.2 k (by unfold scr at a; omega)), fun k a => hq1.2.2 k (by omega)⟩)
  · skip
    refine V_aload_n (pc := 5) C (dk k_F_swap 3 rfl) rfl ?_
    refine V_iload_n (pc := 6) C (dk k_F_swap 4 rfl) rfl ?_
    refine V_callV (pc := 7) C (dk k_F_swap 5 rfl) lk_F_128 cm_F_isThing vm_F_isThing (c_F_isThing _ _ _ pl π t hF0 ok ht) kq_0 rfl rfl rfl (Nat.le_of_ble_eq_true rfl) (Rm.mono hRm (by decide) (by decide)) ?_
    refine V_ifneB (pc := 10) C (dk k_F_swap 6 rfl) 15 rfl (fun h3 => ?_) (fun h3 => ?_)
    · skip
      refine V_aload_n (pc := 15) C (dk k_F_swap 9 rfl) rfl ?_
      refine V_getr (pc := 16) (o2 := 122) C (dk k_F_swap 10 rfl) fl_F_70 kq_0 (by decide) rfl (by decide) rfl ?_
      refine V_aload_n (pc := 19) C (dk k_F_swap 11 rfl) rfl ?_
      refine V_getm (pc := 20) (o2 := pl) C (dk k_F_swap 12 rfl) fl_F_26 kq_0 (by decide) rfl hm_pl ?_
      refine V_aload_n (pc := 23) C (dk k_F_swap 13 rfl) rfl ?_
      refine V_getr (pc := 24) (o2 := 19) C (dk k_F_swap 14 rfl) fl_F_36 kq_0 (by decide) rfl (by decide) rfl ?_
      refine V_callV0r (pc := 27) C (dk k_F_swap 15 rfl) lk_F_223 cm_E_arrange vm_E_arrange (c_E_arrange _ _ _ pl π hπ0 ok x j hx0 xk (by omega)) kq_122 rfl rfl rfl (Nat.le_of_ble_eq_true rfl) (Rm.mono hRm (by decide) (by decide)) (fun τ1 hq1 => ?_)
      refine V_R (fun hR => ?_)
      refine V_iload_n (pc := 30) C (dk k_F_swap 16 rfl) rfl ?_
      refine V_iconst (pc := 31) C (dk k_F_swap 17 rfl) rfl ?_
      refine V_icmpne (pc := 32) C (dk k_F_swap 18 rfl) 45 rfl (by first | exact hR _ _ | with_reducible assumption | exact ⟨by omega, by omega⟩) (by first | exact hR _ _ | with_reducible assumption | exact ⟨by omega, by omega⟩) (fun h4 => ?_) (fun h4 => ?_)
      · skip
        refine V_aload_n (pc := 45) C (dk k_F_swap 23 rfl) rfl ?_
        refine V_getr (pc := 46) (o2 := 122) C (dk k_F_swap 24 rfl) fl_F_70 kq_0 (by decide) rfl (by decide) rfl ?_
        refine V_getr (pc := 49) (o2 := 127) C (dk k_F_swap 25 rfl) fl_F_230 kq_122 (by decide) rfl (by decide) rfl ?_
        refine V_iload_n (pc := 52) C (dk k_F_swap 26 rfl) rfl ?_
        refine V_callS (pc := 53) C (dk k_F_swap 27 rfl) lk_F_117 cm_F_at sm_F_at (c_at _ _ _ (127) 8 t kq_127 (by decide) (by omega) (by omega)) rfl rfl (Nat.le_of_ble_eq_true rfl) (Rm.mono hRm (by decide) (by decide)) ?_
        refine V_iret (pc := 56) C E (dk k_F_swap 28 rfl) ?_
        first | (rw [show o_swap π x t = swL π (msO π x) (qO π x) from if_pos (by omega)]; exact ⟨by rw [hq1.1], hC.fr (fun k a => hq1.2.2 k (by unfold scr at a; omega)), fun k a => hq1.2.2 k (by omega)⟩) | (rw [show o_swap π x t = swa (msO π x) (swg π (msO π x) (qO π x)) t by unfold o_swap; rw [if_neg (by omega), if_pos (by omega)]]; exact ⟨by rw [hq1.2.1 t (by omega) (by omega)], hC.fr (fun k a => hq1.2.2 k (by unfold scr at a; omega)), fun k a => hq1.2.2 k (by omega)⟩)
      · skip
        refine V_aload_n (pc := 35) C (dk k_F_swap 19 rfl) rfl ?_
        refine V_getr (pc := 36) (o2 := 122) C (dk k_F_swap 20 rfl) fl_F_70 kq_0 (by decide) rfl (by decide) rfl ?_
        refine V_geti (pc := 39) (ji := 7) C (dk k_F_swap 21 rfl) fl_F_227 kq_122 (by decide) rfl rfl ?_
        refine V_goto (pc := 42) C (dk k_F_swap 22 rfl) 56 rfl ?_
        refine V_iret (pc := 56) C E (dk k_F_swap 28 rfl) ?_
        first | (rw [show o_swap π x t = swL π (msO π x) (qO π x) from if_pos (by omega)]; exact ⟨by rw [hq1.1], hC.fr (fun k a => hq1.2.2 k (by unfold scr at a; omega)), fun k a => hq1.2.2 k (by omega)⟩) | (rw [show o_swap π x t = swa (msO π x) (swg π (msO π x) (qO π x)) t by unfold o_swap; rw [if_neg (by omega), if_pos (by omega)]]; exact ⟨by rw [hq1.2.1 t (by omega) (by omega)], hC.fr (fun k a => hq1.2.2 k (by unfold scr at a; omega)), fun k a => hq1.2.2 k (by omega)⟩)
    · skip
      refine V_iconst (pc := 13) C (dk k_F_swap 7 rfl) rfl ?_
      refine V_iret (pc := 14) C E (dk k_F_swap 8 rfl) ?_
      rw [show o_swap π x t = -1 by unfold o_swap; rw [if_neg (by omega), if_neg (by omega)]]
      exact ⟨rfl, hC, Fc.rf σ⟩
