/-- a block of 28 numbers holds a stand -/
def BkR (σ : Wd) (a : Nat) (b : Int) (π : PL) (x : ST) : Prop := σ a b = sD x ∧ σ a (b + 1) = sM x ∧ (∀ q : Int, 0 ≤ q → q < pP π → σ a (b + 2 + q) = sG x q ∧ σ a (b + 7 + q) = sR x q) ∧ (∀ t : Int, 0 ≤ t → t < pN π → σ a (b + 12 + t) = sN x t ∧ σ a (b + 20 + t) = sP x t)
theorem BkR.fr {σ σ' : Wd} {a : Nat} {b c : Int} {π : PL} {x : ST} (ok : PLok π) (h : BkR σ a b π x) (hf : ∀ i : Int, 0 ≤ i → i < 28 → σ' a (c + i) = σ a (b + i)) : BkR σ' a c π x := by
  obtain ⟨h1, h2, h3, h4⟩ := h
  obtain ⟨k1, k2, k3, -⟩ := ok
  have e0 := hf 0 (by omega) (by omega)
  rw [Int.add_zero, Int.add_zero] at e0
  refine ⟨e0.trans h1, (hf 1 (by omega) (by omega)).trans h2, fun q u v => ?_, fun t u v => ?_⟩
  · rw [show c + 2 + q = c + (2 + q) by omega, show c + 7 + q = c + (7 + q) by omega, hf (2 + q) (by omega) (by omega), hf (7 + q) (by omega) (by omega), show b + (2 + q) = b + 2 + q by omega, show b + (7 + q) = b + 7 + q by omega]
    exact h3 q u v
  · rw [show c + 12 + t = c + (12 + t) by omega, show c + 20 + t = c + (20 + t) by omega, hf (12 + t) (by omega) (by omega), hf (20 + t) (by omega) (by omega), show b + (12 + t) = b + 12 + t by omega, show b + (20 + t) = b + 20 + t by omega]
    exact h4 t u v
/-- of a block alone is written -/
def FrB (a : Nat) (b : Int) (σ σ' : Wd) : Prop := ∀ (k : Nat) (i : Int), (k ≠ a ∨ i < b ∨ b + 28 ≤ i) → σ' k i = σ k i
theorem FrB.rf (a : Nat) (b : Int) (σ : Wd) : FrB a b σ σ := fun _ _ _ => rfl
theorem FrB.up {a : Nat} {b : Int} {σ τ : Wd} (h : FrB a b σ τ) (i x : Int) (h0 : b ≤ i) (h1 : i < b + 28) : FrB a b σ (up τ a i x) := by
  intro k c hk
  rw [up_off τ x (fun q => by obtain ⟨rfl, rfl⟩ := q; omega)]
  exact h k c hk

def i_Z_lays : List (Nat × (Instr × Nat)) := [(0, (.aload_n 1, 1)), (1, (.iload_n 2, 1)), (2, (.aload_n 0, 1)), (3, (.getfield 150, 3)), (6, (.iastore, 1)), (7, (.aload_n 1, 1)), (8, (.iload_n 2, 1)), (9, (.iconst 1, 1)), (10, (.iadd, 1)), (11, (.aload_n 0, 1)), (12, (.getfield 87, 3)), (15, (.iastore, 1)), (16, (.iconst 0, 1)), (17, (.istore_n 3, 1)), (18, (.iload_n 3, 1)), (19, (.iconst 5, 1)), (20, (.if_icmp .ge 36, 3)), (23, (.aload_n 1, 1)), (24, (.iload_n 2, 1)), (25, (.iconst 2, 1)), (26, (.iadd, 1)), (27, (.iload_n 3, 1)), (28, (.iadd, 1)), (29, (.aload_n 0, 1)), (30, (.getfield 22, 3)), (33, (.iload_n 3, 1)), (34, (.iaload, 1)), (35, (.iastore, 1)), (36, (.aload_n 1, 1)), (37, (.iload_n 2, 1)), (38, (.bipush 7, 2)), (40, (.iadd, 1)), (41, (.iload_n 3, 1)), (42, (.iadd, 1)), (43, (.aload_n 0, 1)), (44, (.getfield 25, 3)), (47, (.iload_n 3, 1)), (48, (.iaload, 1)), (49, (.iastore, 1)), (50, (.iinc 3 1, 3)), (53, (.goto (-35), 3)), (56, (.iconst 0, 1)), (57, (.istore_n 3, 1)), (58, (.iload_n 3, 1)), (59, (.bipush 8, 2)), (61, (.if_icmp .ge 37, 3)), (64, (.aload_n 1, 1)), (65, (.iload_n 2, 1)), (66, (.bipush 12, 2)), (68, (.iadd, 1)), (69, (.iload_n 3, 1)), (70, (.iadd, 1)), (71, (.aload_n 0, 1)), (72, (.getfield 28, 3)), (75, (.iload_n 3, 1)), (76, (.iaload, 1)), (77, (.iastore, 1)), (78, (.aload_n 1, 1)), (79, (.iload_n 2, 1)), (80, (.bipush 20, 2)), (82, (.iadd, 1)), (83, (.iload_n 3, 1)), (84, (.iadd, 1)), (85, (.aload_n 0, 1)), (86, (.getfield 31, 3)), (89, (.iload_n 3, 1)), (90, (.iaload, 1)), (91, (.iastore, 1)), (92, (.iinc 3 1, 3)), (95, (.goto (-37), 3)), (98, (.return_, 1))]
theorem k_Z_lays : i_Z_lays.all (fun q => decide (decode b_Z_lays q.1 = .ok q.2)) = true := by decide +kernel

set_option maxHeartbeats 1000000 in
set_option maxRecDepth 20000 in
theorem c_Z_lays (l : Launch) (G : GE) (σ : Wd) (a n : Nat) (b : Int) (ha : kd a = 1000 + n) (hn : n < 1000) (hb0 : 0 ≤ b) (hb1 : b + 28 ≤ n) (han : a ≠ 128 ∧ ¬ (133 ≤ a ∧ a ≤ 136)) : Ct l G y_Z_lays b_Z_lays 4 (none) 0 0 [vR 128, vR a, vI b] σ (Rt none (fun σ' => (σ' a b = σ 128 8 ∧ σ' a (b + 1) = σ 128 9 ∧ (∀ q : Int, 0 ≤ q → q < 5 → σ' a (b + 2 + q) = σ 133 q ∧ σ' a (b + 7 + q) = σ 134 q) ∧ (∀ t : Int, 0 ≤ t → t < 8 → σ' a (b + 12 + t) = σ 135 t ∧ σ' a (b + 20 + t) = σ 136 t)) ∧ FrB a b σ σ')) := by
  refine Ct.of cm_Z_lays (Nat.le_of_ble_eq_true rfl) ?_
  intro X hXl hXG hXN hRm C E
  subst hXl; subst hXG
  show V X 0 [some (vR 128), some (vR a), some (vI b), none] [] σ
  refine V_R (fun hR => ?_)
  refine V_aload_n (pc := 0) C (dk k_Z_lays 0 rfl) rfl ?_
  refine V_iload_n (pc := 1) C (dk k_Z_lays 1 rfl) rfl ?_
  refine V_aload_n (pc := 2) C (dk k_Z_lays 2 rfl) rfl ?_
  refine V_geti (pc := 3) (ji := 8) C (dk k_Z_lays 3 rfl) fl_Z_150 kq_128 (by decide) rfl rfl ?_
  refine V_iast (pc := 6) C (dk k_Z_lays 4 rfl) ha hn hb0 (by omega) (hR _ _) ?_
  refine V_R (fun hR => ?_)
  refine V_aload_n (pc := 7) C (dk k_Z_lays 5 rfl) rfl ?_
  refine V_iload_n (pc := 8) C (dk k_Z_lays 6 rfl) rfl ?_
  refine V_iconst (pc := 9) C (dk k_Z_lays 7 rfl) rfl ?_
  refine V_iadd (pc := 10) C (dk k_Z_lays 8 rfl) ?_
  refine V_aload_n (pc := 11) C (dk k_Z_lays 9 rfl) rfl ?_
  refine V_geti (pc := 12) (ji := 9) C (dk k_Z_lays 10 rfl) fl_Z_87 kq_128 (by decide) rfl rfl ?_
  refine V_iast (pc := 15) C (dk k_Z_lays 11 rfl) ha hn (by omega) (by omega) (hR _ _) ?_
  refine V_R (fun hR => ?_)
  refine V_iconst (pc := 16) C (dk k_Z_lays 12 rfl) rfl ?_
  refine V_istore_n (pc := 17) C (dk k_Z_lays 13 rfl) (by rw [hXN]; decide) ?_
  dsimp only [lst, lstL, lz, kill, Fin.val, Nat.reduceAdd]
  refine V_eq (V_loop (fun q : Int × Wd => 0 ≤ q.1 ∧ q.1 ≤ 5 ∧ (q.2 a b = σ 128 8 ∧ q.2 a (b + 1) = σ 128 9 ∧ ∀ u : Int, 0 ≤ u → u < q.1 → q.2 a (b + 2 + u) = σ 133 u ∧ q.2 a (b + 7 + u) = σ 134 u) ∧ FrB a b σ q.2) (fun q => [some (vR 128), some (vR a), some (vI b), some (vI q.1)]) (fun q => q.2) (fun q => (5 - q.1).toNat) (fun q hq ih => ?_) (0, up (up σ a b (σ 128 8)) a (b + 1) (up σ a b (σ 128 8) 128 9)) ⟨Int.le_refl _, (by decide : (0 : Int) ≤ 5), ⟨?_, ?_, fun u c d => by dsimp only at d; omega⟩, ((FrB.rf a b σ).up _ _ (by omega) (by omega)).up _ _ (by omega) (by omega)⟩) rfl rfl rfl
  rotate_left
  · simp (disch := omega) only [up_ne1, up_ne2, up_at]
  · simp (disch := omega) only [up_ne1, up_ne2, up_at]
  obtain ⟨i, τ⟩ := q
  obtain ⟨i0, i1, ⟨v0, v1, v2⟩, hfr⟩ := hq
  dsimp only at i0 i1 v0 v1 v2 hfr ih ⊢
  refine V_R (fun hR => ?_)
  have r133 : ∀ c, τ 133 c = σ 133 c := fun c => hfr 133 c (by omega)
  have r134 : ∀ c, τ 134 c = σ 134 c := fun c => hfr 134 c (by omega)
  refine V_iload_n (pc := 18) C (dk k_Z_lays 14 rfl) rfl ?_
  refine V_iconst (pc := 19) C (dk k_Z_lays 15 rfl) rfl ?_
  refine V_icmpge (pc := 20) C (dk k_Z_lays 16 rfl) 56 rfl (by first | exact hR _ _ | with_reducible assumption | exact ⟨by omega, by omega⟩) (by first | exact hR _ _ | with_reducible assumption | exact ⟨by omega, by omega⟩) (fun h1 => ?_) (fun h1 => ?_)
  · skip
    obtain rfl : i = 5 := by omega
    refine V_iconst (pc := 56) C (dk k_Z_lays 41 rfl) rfl ?_
    refine V_istore_n (pc := 57) C (dk k_Z_lays 42 rfl) (by rw [hXN]; decide) ?_
    dsimp only [lst, lstL, lz, kill, Fin.val, Nat.reduceAdd]
    refine V_eq (V_loop (fun q : Int × Wd => 0 ≤ q.1 ∧ q.1 ≤ 8 ∧ (q.2 a b = σ 128 8 ∧ q.2 a (b + 1) = σ 128 9 ∧ (∀ u : Int, 0 ≤ u → u < 5 → q.2 a (b + 2 + u) = σ 133 u ∧ q.2 a (b + 7 + u) = σ 134 u) ∧ ∀ u : Int, 0 ≤ u → u < q.1 → q.2 a (b + 12 + u) = σ 135 u ∧ q.2 a (b + 20 + u) = σ 136 u) ∧ FrB a b σ q.2) (fun q => [some (vR 128), some (vR a), some (vI b), some (vI q.1)]) (fun q => q.2) (fun q => (8 - q.1).toNat) (fun q hq ih2 => ?_) (0, τ) ⟨Int.le_refl _, (by decide : (0 : Int) ≤ 8), ⟨v0, v1, v2, fun u c d => by dsimp only at d; omega⟩, hfr⟩) rfl rfl rfl
    obtain ⟨k, ρ⟩ := q
    obtain ⟨j0, j1, ⟨w0, w1, w2, w3⟩, hfr2⟩ := hq
    dsimp only at j0 j1 w0 w1 w2 w3 hfr2 ih2 ⊢
    refine V_R (fun hR => ?_)
    have r135 : ∀ c, ρ 135 c = σ 135 c := fun c => hfr2 135 c (by omega)
    have r136 : ∀ c, ρ 136 c = σ 136 c := fun c => hfr2 136 c (by omega)
    refine V_iload_n (pc := 58) C (dk k_Z_lays 43 rfl) rfl ?_
    refine V_bipush (pc := 59) (n' := 8) C (dk k_Z_lays 44 rfl) rfl ?_
    refine V_icmpge (pc := 61) C (dk k_Z_lays 45 rfl) 98 rfl (by first | exact hR _ _ | with_reducible assumption | exact ⟨by omega, by omega⟩) (by first | exact hR _ _ | with_reducible assumption | exact ⟨by omega, by omega⟩) (fun h2 => ?_) (fun h2 => ?_)
    · skip
      refine V_vret (pc := 98) C E (dk k_Z_lays 70 rfl) ?_
      obtain rfl : k = 8 := by omega
      exact ⟨rfl, ⟨w0, w1, w2, w3⟩, hfr2⟩
    · skip
      refine V_aload_n (pc := 64) C (dk k_Z_lays 46 rfl) rfl ?_
      refine V_iload_n (pc := 65) C (dk k_Z_lays 47 rfl) rfl ?_
      refine V_bipush (pc := 66) (n' := 12) C (dk k_Z_lays 48 rfl) rfl ?_
      refine V_iadd (pc := 68) C (dk k_Z_lays 49 rfl) ?_
      refine V_iload_n (pc := 69) C (dk k_Z_lays 50 rfl) rfl ?_
      refine V_iadd (pc := 70) C (dk k_Z_lays 51 rfl) ?_
      refine V_aload_n (pc := 71) C (dk k_Z_lays 52 rfl) rfl ?_
      refine V_getr (pc := 72) (o2 := 135) C (dk k_Z_lays 53 rfl) fl_Z_28 kq_128 (by decide) rfl (by decide) rfl ?_
      refine V_iload_n (pc := 75) C (dk k_Z_lays 54 rfl) rfl ?_
      refine V_iald (pc := 76) C (dk k_Z_lays 55 rfl) kq_135 (by decide) (by omega) (by omega) ?_
      refine V_iast (pc := 77) C (dk k_Z_lays 56 rfl) ha hn (by omega) (by omega) (hR _ _) ?_
      refine V_R (fun hR => ?_)
      refine V_aload_n (pc := 78) C (dk k_Z_lays 57 rfl) rfl ?_
      refine V_iload_n (pc := 79) C (dk k_Z_lays 58 rfl) rfl ?_
      refine V_bipush (pc := 80) (n' := 20) C (dk k_Z_lays 59 rfl) rfl ?_
      refine V_iadd (pc := 82) C (dk k_Z_lays 60 rfl) ?_
      refine V_iload_n (pc := 83) C (dk k_Z_lays 61 rfl) rfl ?_
      refine V_iadd (pc := 84) C (dk k_Z_lays 62 rfl) ?_
      refine V_aload_n (pc := 85) C (dk k_Z_lays 63 rfl) rfl ?_
      refine V_getr (pc := 86) (o2 := 136) C (dk k_Z_lays 64 rfl) fl_Z_31 kq_128 (by decide) rfl (by decide) rfl ?_
      refine V_iload_n (pc := 89) C (dk k_Z_lays 65 rfl) rfl ?_
      refine V_iald (pc := 90) C (dk k_Z_lays 66 rfl) kq_136 (by decide) (by omega) (by omega) ?_
      refine V_iast (pc := 91) C (dk k_Z_lays 67 rfl) ha hn (by omega) (by omega) (hR _ _) ?_
      refine V_R (fun hR => ?_)
      refine V_iinc (pc := 92) C (dk k_Z_lays 68 rfl) (by rw [hXN]; decide) rfl ?_
      dsimp only [lst, lstL, lz, kill, Fin.val, Nat.reduceAdd]
      refine V_goto (pc := 95) C (dk k_Z_lays 69 rfl) 58 rfl ?_
      refine ih2 (k + 1, up (up ρ a (b + 12 + k) (ρ 135 k)) a (b + 20 + k) (up ρ a (b + 12 + k) (ρ 135 k) 136 k)) ⟨by dsimp only; omega, by dsimp only; omega, ⟨?_, ?_, fun u c d => ?_, fun u c d => ?_⟩, (hfr2.up _ _ (by omega) (by omega)).up _ _ (by omega) (by omega)⟩ (by dsimp only; omega)
      · simp (disch := omega) only [up_ne1, up_ne2, up_at]; exact w0
      · simp (disch := omega) only [up_ne1, up_ne2, up_at]; exact w1
      · simp (disch := omega) only [up_ne1, up_ne2, up_at]; exact w2 u c d
      · dsimp only at d ⊢
        by_cases hu : u = k
        · subst hu; simp (disch := omega) only [up_ne1, up_ne2, up_at]; exact ⟨r135 u, r136 u⟩
        · simp (disch := omega) only [up_ne1, up_ne2, up_at]; exact w3 u c (by omega)
  · skip
    refine V_aload_n (pc := 23) C (dk k_Z_lays 17 rfl) rfl ?_
    refine V_iload_n (pc := 24) C (dk k_Z_lays 18 rfl) rfl ?_
    refine V_iconst (pc := 25) C (dk k_Z_lays 19 rfl) rfl ?_
    refine V_iadd (pc := 26) C (dk k_Z_lays 20 rfl) ?_
    refine V_iload_n (pc := 27) C (dk k_Z_lays 21 rfl) rfl ?_
    refine V_iadd (pc := 28) C (dk k_Z_lays 22 rfl) ?_
    refine V_aload_n (pc := 29) C (dk k_Z_lays 23 rfl) rfl ?_
    refine V_getr (pc := 30) (o2 := 133) C (dk k_Z_lays 24 rfl) fl_Z_22 kq_128 (by decide) rfl (by decide) rfl ?_
    refine V_iload_n (pc := 33) C (dk k_Z_lays 25 rfl) rfl ?_
    refine V_iald (pc := 34) C (dk k_Z_lays 26 rfl) kq_133 (by decide) (by omega) (by omega) ?_
    refine V_iast (pc := 35) C (dk k_Z_lays 27 rfl) ha hn (by omega) (by omega) (hR _ _) ?_
    refine V_R (fun hR => ?_)
    refine V_aload_n (pc := 36) C (dk k_Z_lays 28 rfl) rfl ?_
    refine V_iload_n (pc := 37) C (dk k_Z_lays 29 rfl) rfl ?_
    refine V_bipush (pc := 38) (n' := 7) C (dk k_Z_lays 30 rfl) rfl ?_
    refine V_iadd (pc := 40) C (dk k_Z_lays 31 rfl) ?_
    refine V_iload_n (pc := 41) C (dk k_Z_lays 32 rfl) rfl ?_
    refine V_iadd (pc := 42) C (dk k_Z_lays 33 rfl) ?_
    refine V_aload_n (pc := 43) C (dk k_Z_lays 34 rfl) rfl ?_
    refine V_getr (pc := 44) (o2 := 134) C (dk k_Z_lays 35 rfl) fl_Z_25 kq_128 (by decide) rfl (by decide) rfl ?_
    refine V_iload_n (pc := 47) C (dk k_Z_lays 36 rfl) rfl ?_
    refine V_iald (pc := 48) C (dk k_Z_lays 37 rfl) kq_134 (by decide) (by omega) (by omega) ?_
    refine V_iast (pc := 49) C (dk k_Z_lays 38 rfl) ha hn (by omega) (by omega) (hR _ _) ?_
    refine V_R (fun hR => ?_)
    refine V_iinc (pc := 50) C (dk k_Z_lays 39 rfl) (by rw [hXN]; decide) rfl ?_
    dsimp only [lst, lstL, lz, kill, Fin.val, Nat.reduceAdd]
    refine V_goto (pc := 53) C (dk k_Z_lays 40 rfl) 18 rfl ?_
    refine ih (i + 1, up (up τ a (b + 2 + i) (τ 133 i)) a (b + 7 + i) (up τ a (b + 2 + i) (τ 133 i) 134 i)) ⟨by dsimp only; omega, by dsimp only; omega, ⟨?_, ?_, fun u c d => ?_⟩, (hfr.up _ _ (by omega) (by omega)).up _ _ (by omega) (by omega)⟩ (by dsimp only; omega)
    · simp (disch := omega) only [up_ne1, up_ne2, up_at]; exact v0
    · simp (disch := omega) only [up_ne1, up_ne2, up_at]; exact v1
    · dsimp only at d ⊢
      by_cases hu : u = i
      · subst hu; simp (disch := omega) only [up_ne1, up_ne2, up_at]; exact ⟨r133 u, r134 u⟩
      · simp (disch := omega) only [up_ne1, up_ne2, up_at]; exact v2 u c (by omega)

theorem BkR.of {σ τ : Wd} {a : Nat} {b : Int} {π : PL} {x : ST} (ok : PLok π) (hx : StM σ π x) (h : τ a b = σ 128 8 ∧ τ a (b + 1) = σ 128 9 ∧ (∀ q : Int, 0 ≤ q → q < 5 → τ a (b + 2 + q) = σ 133 q ∧ τ a (b + 7 + q) = σ 134 q) ∧ (∀ t : Int, 0 ≤ t → t < 8 → τ a (b + 12 + t) = σ 135 t ∧ τ a (b + 20 + t) = σ 136 t)) : BkR τ a b π x := by
  obtain ⟨f0, f1, fQ, fT⟩ := hx
  obtain ⟨h0, h1, h2, h3⟩ := h
  obtain ⟨k1, k2, k3, -⟩ := ok
  exact ⟨h0.trans f0, h1.trans f1, fun q u v => ⟨(h2 q u (by omega)).1.trans (fQ q u v).1, (h2 q u (by omega)).2.trans (fQ q u v).2⟩, fun t u v => ⟨(h3 t u (by omega)).1.trans (fT t u v).1, (h3 t u (by omega)).2.trans (fT t u v).2⟩⟩
theorem StM.of {σ τ : Wd} {a : Nat} {b : Int} {π : PL} {x : ST} (ok : PLok π) (hb : BkR σ a b π x) (h : τ 128 8 = σ a b ∧ τ 128 9 = σ a (b + 1) ∧ (∀ q : Int, 0 ≤ q → q < 5 → τ 133 q = σ a (b + 2 + q) ∧ τ 134 q = σ a (b + 7 + q)) ∧ (∀ t : Int, 0 ≤ t → t < 8 → τ 135 t = σ a (b + 12 + t) ∧ τ 136 t = σ a (b + 20 + t))) : StM τ π x := by
  obtain ⟨f0, f1, fQ, fT⟩ := hb
  obtain ⟨h0, h1, h2, h3⟩ := h
  obtain ⟨k1, k2, k3, -⟩ := ok
  exact ⟨h0.trans f0, h1.trans f1, fun q u v => ⟨(h2 q u (by omega)).1.trans (fQ q u v).1, (h2 q u (by omega)).2.trans (fQ q u v).2⟩, fun t u v => ⟨(h3 t u (by omega)).1.trans (fT t u v).1, (h3 t u (by omega)).2.trans (fT t u v).2⟩⟩

def i_Z_takes : List (Nat × (Instr × Nat)) := [(0, (.aload_n 0, 1)), (1, (.aload_n 1, 1)), (2, (.iload_n 2, 1)), (3, (.iaload, 1)), (4, (.putfield 150, 3)), (7, (.aload_n 0, 1)), (8, (.aload_n 1, 1)), (9, (.iload_n 2, 1)), (10, (.iconst 1, 1)), (11, (.iadd, 1)), (12, (.iaload, 1)), (13, (.putfield 87, 3)), (16, (.iconst 0, 1)), (17, (.istore_n 3, 1)), (18, (.iload_n 3, 1)), (19, (.iconst 5, 1)), (20, (.if_icmp .ge 36, 3)), (23, (.aload_n 0, 1)), (24, (.getfield 22, 3)), (27, (.iload_n 3, 1)), (28, (.aload_n 1, 1)), (29, (.iload_n 2, 1)), (30, (.iconst 2, 1)), (31, (.iadd, 1)), (32, (.iload_n 3, 1)), (33, (.iadd, 1)), (34, (.iaload, 1)), (35, (.iastore, 1)), (36, (.aload_n 0, 1)), (37, (.getfield 25, 3)), (40, (.iload_n 3, 1)), (41, (.aload_n 1, 1)), (42, (.iload_n 2, 1)), (43, (.bipush 7, 2)), (45, (.iadd, 1)), (46, (.iload_n 3, 1)), (47, (.iadd, 1)), (48, (.iaload, 1)), (49, (.iastore, 1)), (50, (.iinc 3 1, 3)), (53, (.goto (-35), 3)), (56, (.iconst 0, 1)), (57, (.istore_n 3, 1)), (58, (.iload_n 3, 1)), (59, (.bipush 8, 2)), (61, (.if_icmp .ge 37, 3)), (64, (.aload_n 0, 1)), (65, (.getfield 28, 3)), (68, (.iload_n 3, 1)), (69, (.aload_n 1, 1)), (70, (.iload_n 2, 1)), (71, (.bipush 12, 2)), (73, (.iadd, 1)), (74, (.iload_n 3, 1)), (75, (.iadd, 1)), (76, (.iaload, 1)), (77, (.iastore, 1)), (78, (.aload_n 0, 1)), (79, (.getfield 31, 3)), (82, (.iload_n 3, 1)), (83, (.aload_n 1, 1)), (84, (.iload_n 2, 1)), (85, (.bipush 20, 2)), (87, (.iadd, 1)), (88, (.iload_n 3, 1)), (89, (.iadd, 1)), (90, (.iaload, 1)), (91, (.iastore, 1)), (92, (.iinc 3 1, 3)), (95, (.goto (-37), 3)), (98, (.return_, 1))]
theorem k_Z_takes : i_Z_takes.all (fun q => decide (decode b_Z_takes q.1 = .ok q.2)) = true := by decide +kernel

set_option maxHeartbeats 1000000 in
set_option maxRecDepth 20000 in
theorem c_Z_takes (l : Launch) (G : GE) (σ : Wd) (a n : Nat) (b : Int) (ha : kd a = 1000 + n) (hn : n < 1000) (hb0 : 0 ≤ b) (hb1 : b + 28 ≤ n) (han : a ≠ 128 ∧ ¬ (133 ≤ a ∧ a ≤ 136)) : Ct l G y_Z_takes b_Z_takes 4 (none) 0 0 [vR 128, vR a, vI b] σ (Rt none (fun σ' => (σ' 128 8 = σ a b ∧ σ' 128 9 = σ a (b + 1) ∧ (∀ q : Int, 0 ≤ q → q < 5 → σ' 133 q = σ a (b + 2 + q) ∧ σ' 134 q = σ a (b + 7 + q)) ∧ (∀ t : Int, 0 ≤ t → t < 8 → σ' 135 t = σ a (b + 12 + t) ∧ σ' 136 t = σ a (b + 20 + t))) ∧ FrZ σ σ')) := by
  refine Ct.of cm_Z_takes (Nat.le_of_ble_eq_true rfl) ?_
  intro X hXl hXG hXN hRm C E
  subst hXl; subst hXG
  show V X 0 [some (vR 128), some (vR a), some (vI b), none] [] σ
  refine V_R (fun hR => ?_)
  refine V_aload_n (pc := 0) C (dk k_Z_takes 0 rfl) rfl ?_
  refine V_aload_n (pc := 1) C (dk k_Z_takes 1 rfl) rfl ?_
  refine V_iload_n (pc := 2) C (dk k_Z_takes 2 rfl) rfl ?_
  refine V_iald (pc := 3) C (dk k_Z_takes 3 rfl) ha hn hb0 (by omega) ?_
  refine V_puti (pc := 4) (ji := 8) C (dk k_Z_takes 4 rfl) fl_Z_150 fw_9_8 kq_128 (by decide) rfl rfl (hR _ _) ?_
  refine V_R (fun hR => ?_)
  refine V_aload_n (pc := 7) C (dk k_Z_takes 5 rfl) rfl ?_
  refine V_aload_n (pc := 8) C (dk k_Z_takes 6 rfl) rfl ?_
  refine V_iload_n (pc := 9) C (dk k_Z_takes 7 rfl) rfl ?_
  refine V_iconst (pc := 10) C (dk k_Z_takes 8 rfl) rfl ?_
  refine V_iadd (pc := 11) C (dk k_Z_takes 9 rfl) ?_
  refine V_iald (pc := 12) C (dk k_Z_takes 10 rfl) ha hn (by omega) (by omega) ?_
  refine V_puti (pc := 13) (ji := 9) C (dk k_Z_takes 11 rfl) fl_Z_87 fw_9_9 kq_128 (by decide) rfl rfl (hR _ _) ?_
  refine V_R (fun hR => ?_)
  refine V_iconst (pc := 16) C (dk k_Z_takes 12 rfl) rfl ?_
  refine V_istore_n (pc := 17) C (dk k_Z_takes 13 rfl) (by rw [hXN]; decide) ?_
  dsimp only [lst, lstL, lz, kill, Fin.val, Nat.reduceAdd]
  refine V_eq (V_loop (fun q : Int × Wd => 0 ≤ q.1 ∧ q.1 ≤ 5 ∧ (q.2 128 8 = σ a b ∧ q.2 128 9 = σ a (b + 1) ∧ ∀ u : Int, 0 ≤ u → u < q.1 → q.2 133 u = σ a (b + 2 + u) ∧ q.2 134 u = σ a (b + 7 + u)) ∧ FrZ σ q.2) (fun q => [some (vR 128), some (vR a), some (vI b), some (vI q.1)]) (fun q => q.2) (fun q => (5 - q.1).toNat) (fun q hq ih => ?_) (0, up (up σ 128 8 (σ a b)) 128 9 (up σ 128 8 (σ a b) a (b + 1))) ⟨Int.le_refl _, (by decide : (0 : Int) ≤ 5), ⟨?_, ?_, fun u c d => by dsimp only at d; omega⟩, ((FrZ.rf σ).up 128 _ _ (by omega)).up 128 _ _ (by omega)⟩) rfl rfl rfl
  rotate_left
  · simp (disch := omega) only [up_ne1, up_ne2, up_at]
  · simp (disch := omega) only [up_ne1, up_ne2, up_at]
  obtain ⟨i, τ⟩ := q
  obtain ⟨i0, i1, ⟨v0, v1, v2⟩, hfr⟩ := hq
  dsimp only at i0 i1 v0 v1 v2 hfr ih ⊢
  refine V_R (fun hR => ?_)
  have ra : ∀ c, τ a c = σ a c := fun c => hfr a c (by omega) (by omega)
  refine V_iload_n (pc := 18) C (dk k_Z_takes 14 rfl) rfl ?_
  refine V_iconst (pc := 19) C (dk k_Z_takes 15 rfl) rfl ?_
  refine V_icmpge (pc := 20) C (dk k_Z_takes 16 rfl) 56 rfl (by first | exact hR _ _ | with_reducible assumption | exact ⟨by omega, by omega⟩) (by first | exact hR _ _ | with_reducible assumption | exact ⟨by omega, by omega⟩) (fun h1 => ?_) (fun h1 => ?_)
  · skip
    obtain rfl : i = 5 := by omega
    refine V_iconst (pc := 56) C (dk k_Z_takes 41 rfl) rfl ?_
    refine V_istore_n (pc := 57) C (dk k_Z_takes 42 rfl) (by rw [hXN]; decide) ?_
    dsimp only [lst, lstL, lz, kill, Fin.val, Nat.reduceAdd]
    refine V_eq (V_loop (fun q : Int × Wd => 0 ≤ q.1 ∧ q.1 ≤ 8 ∧ (q.2 128 8 = σ a b ∧ q.2 128 9 = σ a (b + 1) ∧ (∀ u : Int, 0 ≤ u → u < 5 → q.2 133 u = σ a (b + 2 + u) ∧ q.2 134 u = σ a (b + 7 + u)) ∧ ∀ u : Int, 0 ≤ u → u < q.1 → q.2 135 u = σ a (b + 12 + u) ∧ q.2 136 u = σ a (b + 20 + u)) ∧ FrZ σ q.2) (fun q => [some (vR 128), some (vR a), some (vI b), some (vI q.1)]) (fun q => q.2) (fun q => (8 - q.1).toNat) (fun q hq ih2 => ?_) (0, τ) ⟨Int.le_refl _, (by decide : (0 : Int) ≤ 8), ⟨v0, v1, v2, fun u c d => by dsimp only at d; omega⟩, hfr⟩) rfl rfl rfl
    obtain ⟨k, ρ⟩ := q
    obtain ⟨j0, j1, ⟨w0, w1, w2, w3⟩, hfr2⟩ := hq
    dsimp only at j0 j1 w0 w1 w2 w3 hfr2 ih2 ⊢
    refine V_R (fun hR => ?_)
    have rb : ∀ c, ρ a c = σ a c := fun c => hfr2 a c (by omega) (by omega)
    refine V_iload_n (pc := 58) C (dk k_Z_takes 43 rfl) rfl ?_
    refine V_bipush (pc := 59) (n' := 8) C (dk k_Z_takes 44 rfl) rfl ?_
    refine V_icmpge (pc := 61) C (dk k_Z_takes 45 rfl) 98 rfl (by first | exact hR _ _ | with_reducible assumption | exact ⟨by omega, by omega⟩) (by first | exact hR _ _ | with_reducible assumption | exact ⟨by omega, by omega⟩) (fun h2 => ?_) (fun h2 => ?_)
    · skip
      refine V_vret (pc := 98) C E (dk k_Z_takes 70 rfl) ?_
      obtain rfl : k = 8 := by omega
      exact ⟨rfl, ⟨w0, w1, w2, w3⟩, hfr2⟩
    · skip
      refine V_aload_n (pc := 64) C (dk k_Z_takes 46 rfl) rfl ?_
      refine V_getr (pc := 65) (o2 := 135) C (dk k_Z_takes 47 rfl) fl_Z_28 kq_128 (by decide) rfl (by decide) rfl ?_
      refine V_iload_n (pc := 68) C (dk k_Z_takes 48 rfl) rfl ?_
      refine V_aload_n (pc := 69) C (dk k_Z_takes 49 rfl) rfl ?_
      refine V_iload_n (pc := 70) C (dk k_Z_takes 50 rfl) rfl ?_
      refine V_bipush (pc := 71) (n' := 12) C (dk k_Z_takes 51 rfl) rfl ?_
      refine V_iadd (pc := 73) C (dk k_Z_takes 52 rfl) ?_
      refine V_iload_n (pc := 74) C (dk k_Z_takes 53 rfl) rfl ?_
      refine V_iadd (pc := 75) C (dk k_Z_takes 54 rfl) ?_
      refine V_iald (pc := 76) C (dk k_Z_takes 55 rfl) ha hn (by omega) (by omega) ?_
      refine V_iast (pc := 77) C (dk k_Z_takes 56 rfl) kq_135 (by decide) j0 (by omega) (hR _ _) ?_
      refine V_R (fun hR => ?_)
      refine V_aload_n (pc := 78) C (dk k_Z_takes 57 rfl) rfl ?_
      refine V_getr (pc := 79) (o2 := 136) C (dk k_Z_takes 58 rfl) fl_Z_31 kq_128 (by decide) rfl (by decide) rfl ?_
      refine V_iload_n (pc := 82) C (dk k_Z_takes 59 rfl) rfl ?_
      refine V_aload_n (pc := 83) C (dk k_Z_takes 60 rfl) rfl ?_
      refine V_iload_n (pc := 84) C (dk k_Z_takes 61 rfl) rfl ?_
      refine V_bipush (pc := 85) (n' := 20) C (dk k_Z_takes 62 rfl) rfl ?_
      refine V_iadd (pc := 87) C (dk k_Z_takes 63 rfl) ?_
      refine V_iload_n (pc := 88) C (dk k_Z_takes 64 rfl) rfl ?_
      refine V_iadd (pc := 89) C (dk k_Z_takes 65 rfl) ?_
      refine V_iald (pc := 90) C (dk k_Z_takes 66 rfl) ha hn (by omega) (by omega) ?_
      refine V_iast (pc := 91) C (dk k_Z_takes 67 rfl) kq_136 (by decide) j0 (by omega) (hR _ _) ?_
      refine V_R (fun hR => ?_)
      refine V_iinc (pc := 92) C (dk k_Z_takes 68 rfl) (by rw [hXN]; decide) rfl ?_
      dsimp only [lst, lstL, lz, kill, Fin.val, Nat.reduceAdd]
      refine V_goto (pc := 95) C (dk k_Z_takes 69 rfl) 58 rfl ?_
      refine ih2 (k + 1, up (up ρ 135 k (ρ a (b + 12 + k))) 136 k (up ρ 135 k (ρ a (b + 12 + k)) a (b + 20 + k))) ⟨by dsimp only; omega, by dsimp only; omega, ⟨?_, ?_, fun u c d => ?_, fun u c d => ?_⟩, (hfr2.up 135 _ _ (by omega)).up 136 _ _ (by omega)⟩ (by dsimp only; omega)
      · simp (disch := omega) only [up_ne1, up_ne2, up_at]; exact w0
      · simp (disch := omega) only [up_ne1, up_ne2, up_at]; exact w1
      · simp (disch := omega) only [up_ne1, up_ne2, up_at]; exact w2 u c d
      · dsimp only at d ⊢
        by_cases hu : u = k
        · subst hu; simp (disch := omega) only [up_ne1, up_ne2, up_at]; exact ⟨rb _, rb _⟩
        · simp (disch := omega) only [up_ne1, up_ne2, up_at]; exact w3 u c (by omega)
  · skip
    refine V_aload_n (pc := 23) C (dk k_Z_takes 17 rfl) rfl ?_
    refine V_getr (pc := 24) (o2 := 133) C (dk k_Z_takes 18 rfl) fl_Z_22 kq_128 (by decide) rfl (by decide) rfl ?_
    refine V_iload_n (pc := 27) C (dk k_Z_takes 19 rfl) rfl ?_
    refine V_aload_n (pc := 28) C (dk k_Z_takes 20 rfl) rfl ?_
    refine V_iload_n (pc := 29) C (dk k_Z_takes 21 rfl) rfl ?_
    refine V_iconst (pc := 30) C (dk k_Z_takes 22 rfl) rfl ?_
    refine V_iadd (pc := 31) C (dk k_Z_takes 23 rfl) ?_
    refine V_iload_n (pc := 32) C (dk k_Z_takes 24 rfl) rfl ?_
    refine V_iadd (pc := 33) C (dk k_Z_takes 25 rfl) ?_
    refine V_iald (pc := 34) C (dk k_Z_takes 26 rfl) ha hn (by omega) (by omega) ?_
    refine V_iast (pc := 35) C (dk k_Z_takes 27 rfl) kq_133 (by decide) i0 (by omega) (hR _ _) ?_
    refine V_R (fun hR => ?_)
    refine V_aload_n (pc := 36) C (dk k_Z_takes 28 rfl) rfl ?_
    refine V_getr (pc := 37) (o2 := 134) C (dk k_Z_takes 29 rfl) fl_Z_25 kq_128 (by decide) rfl (by decide) rfl ?_
    refine V_iload_n (pc := 40) C (dk k_Z_takes 30 rfl) rfl ?_
    refine V_aload_n (pc := 41) C (dk k_Z_takes 31 rfl) rfl ?_
    refine V_iload_n (pc := 42) C (dk k_Z_takes 32 rfl) rfl ?_
    refine V_bipush (pc := 43) (n' := 7) C (dk k_Z_takes 33 rfl) rfl ?_
    refine V_iadd (pc := 45) C (dk k_Z_takes 34 rfl) ?_
    refine V_iload_n (pc := 46) C (dk k_Z_takes 35 rfl) rfl ?_
    refine V_iadd (pc := 47) C (dk k_Z_takes 36 rfl) ?_
    refine V_iald (pc := 48) C (dk k_Z_takes 37 rfl) ha hn (by omega) (by omega) ?_
    refine V_iast (pc := 49) C (dk k_Z_takes 38 rfl) kq_134 (by decide) i0 (by omega) (hR _ _) ?_
    refine V_R (fun hR => ?_)
    refine V_iinc (pc := 50) C (dk k_Z_takes 39 rfl) (by rw [hXN]; decide) rfl ?_
    dsimp only [lst, lstL, lz, kill, Fin.val, Nat.reduceAdd]
    refine V_goto (pc := 53) C (dk k_Z_takes 40 rfl) 18 rfl ?_
    refine ih (i + 1, up (up τ 133 i (τ a (b + 2 + i))) 134 i (up τ 133 i (τ a (b + 2 + i)) a (b + 7 + i))) ⟨by dsimp only; omega, by dsimp only; omega, ⟨?_, ?_, fun u c d => ?_⟩, (hfr.up 133 _ _ (by omega)).up 134 _ _ (by omega)⟩ (by dsimp only; omega)
    · simp (disch := omega) only [up_ne1, up_ne2, up_at]; exact v0
    · simp (disch := omega) only [up_ne1, up_ne2, up_at]; exact v1
    · dsimp only at d ⊢
      by_cases hu : u = i
      · subst hu; simp (disch := omega) only [up_ne1, up_ne2, up_at]; exact ⟨ra _, ra _⟩
      · simp (disch := omega) only [up_ne1, up_ne2, up_at]; exact v2 u c (by omega)
