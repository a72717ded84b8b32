/-- the model's plan stands for π -/
def PlM (σ : Wd) (π : PL) : Prop := σ 128 0 = pP π ∧ σ 128 1 = pN π ∧ σ 128 2 = pR π ∧ σ 128 3 = pL π ∧ (∀ t : Int, 0 ≤ t → t < pN π → σ 130 t = pO π t ∧ σ 131 t = pK π t ∧ σ 132 t = pU π t) ∧ (∀ r : Int, 0 ≤ r → r < pR π → σ 129 r = pX π r)
/-- how all stands in the model -/
def StM (σ : Wd) (π : PL) (x : ST) : Prop := σ 128 8 = sD x ∧ σ 128 9 = sM x ∧ (∀ q : Int, 0 ≤ q → q < pP π → σ 133 q = sG x q ∧ σ 134 q = sR x q) ∧ (∀ t : Int, 0 ≤ t → t < pN π → σ 135 t = sN x t ∧ σ 136 t = sP x t)
/-- of the model, the stand alone is written -/
def FrZ (σ σ' : Wd) : Prop := ∀ (k : Nat) (i : Int), ¬ (133 ≤ k ∧ k ≤ 136) → ¬ (k = 128 ∧ (i = 8 ∨ i = 9)) → σ' k i = σ k i
theorem FrZ.rf (σ : Wd) : FrZ σ σ := fun _ _ _ _ => rfl
theorem FrZ.tr {σ τ ρ : Wd} (h : FrZ σ τ) (h2 : FrZ τ ρ) : FrZ σ ρ := fun k i a b => (h2 k i a b).trans (h k i a b)
theorem up_off (σ : Wd) {a k : Nat} {i b : Int} (x : Int) (h : ¬ (k = a ∧ b = i)) : up σ a i x k b = σ k b := by unfold up; rw [if_neg h]
theorem FrZ.up {σ τ : Wd} (h : FrZ σ τ) (a : Nat) (i x : Int) (ha : (133 ≤ a ∧ a ≤ 136) ∨ (a = 128 ∧ (i = 8 ∨ i = 9))) : FrZ σ (up τ a i x) := by
  intro k b h1 h2
  rw [up_off τ x (fun q => by obtain ⟨rfl, rfl⟩ := q; rcases ha with ha | ha; exact h1 ha; exact h2 ha)]
  exact h k b h1 h2
theorem PlM.fr {σ σ' : Wd} {π : PL} (h : PlM σ π) (hf : FrZ σ σ') : PlM σ' π := by
  obtain ⟨h1, h2, h3, h4, h5, h6⟩ := h
  refine ⟨by rw [hf 128 0 (by omega) (by omega)]; exact h1, by rw [hf 128 1 (by omega) (by omega)]; exact h2, by rw [hf 128 2 (by omega) (by omega)]; exact h3, by rw [hf 128 3 (by omega) (by omega)]; exact h4, fun t a b => ?_, fun r a b => ?_⟩
  · rw [hf 130 t (by omega) (by omega), hf 131 t (by omega) (by omega), hf 132 t (by omega) (by omega)]; exact h5 t a b
  · rw [hf 129 r (by omega) (by omega)]; exact h6 r a b
theorem StM.cg {σ : Wd} {π : PL} {x y : ST} (h : StM σ π x) (h1 : sD x = sD y) (h2 : sM x = sM y) (h3 : ∀ q : Int, 0 ≤ q → q < pP π → sG x q = sG y q ∧ sR x q = sR y q) (h4 : ∀ t : Int, 0 ≤ t → t < pN π → sN x t = sN y t ∧ sP x t = sP y t) : StM σ π y := by
  obtain ⟨g1, g2, g3, g4⟩ := h
  refine ⟨g1.trans h1, g2.trans h2, fun q a b => ?_, fun t a b => ?_⟩
  · rw [← (h3 q a b).1, ← (h3 q a b).2]; exact g3 q a b
  · rw [← (h4 t a b).1, ← (h4 t a b).2]; exact g4 t a b
theorem StM.fr {σ σ' : Wd} {π : PL} {x : ST} (h : StM σ π x) (h8 : σ' 128 8 = σ 128 8) (h9 : σ' 128 9 = σ 128 9) (hr : ∀ k, 133 ≤ k → k ≤ 136 → σ' k = σ k) : StM σ' π x := by
  obtain ⟨g1, g2, g3, g4⟩ := h
  refine ⟨h8.trans g1, h9.trans g2, fun q a b => ?_, fun t a b => ?_⟩
  · rw [hr 133 (by omega) (by omega), hr 134 (by omega) (by omega)]; exact g3 q a b
  · rw [hr 135 (by omega) (by omega), hr 136 (by omega) (by omega)]; exact g4 t a b

theorem StM.upD {σ : Wd} {π : PL} {x : ST} (h : StM σ π x) (v : Int) : StM (up σ 128 8 v) π (v, (sM x, (sG x, (sR x, (sN x, sP x))))) := by
  obtain ⟨h1, h2, h3, h4⟩ := h
  refine ⟨?_, ?_, fun q a b => ?_, fun t a b => ?_⟩
  · show up σ 128 8 v 128 8 = _
    unfold up; split
    · first | rfl | omega
    · first | exact h1 | (exfalso; omega)
  · show up σ 128 8 v 128 9 = _
    unfold up; split
    · first | rfl | omega
    · first | exact h2 | (exfalso; omega)
  · obtain ⟨g1, g2⟩ := h3 q a b
    constructor
    · show up σ 128 8 v 133 q = sG x q
      unfold up; first | (rw [if_neg (by omega)]; exact g1) | (simp only [true_and]; rw [g1])
    · show up σ 128 8 v 134 q = sR x q
      unfold up; first | (rw [if_neg (by omega)]; exact g2) | (simp only [true_and]; rw [g2])
  · obtain ⟨g1, g2⟩ := h4 t a b
    constructor
    · show up σ 128 8 v 135 t = sN x t
      unfold up; first | (rw [if_neg (by omega)]; exact g1) | (simp only [true_and]; rw [g1])
    · show up σ 128 8 v 136 t = sP x t
      unfold up; first | (rw [if_neg (by omega)]; exact g2) | (simp only [true_and]; rw [g2])
theorem StM.upM {σ : Wd} {π : PL} {x : ST} (h : StM σ π x) (v : Int) : StM (up σ 128 9 v) π (sD x, (v, (sG x, (sR x, (sN x, sP x))))) := by
  obtain ⟨h1, h2, h3, h4⟩ := h
  refine ⟨?_, ?_, fun q a b => ?_, fun t a b => ?_⟩
  · show up σ 128 9 v 128 8 = _
    unfold up; split
    · first | rfl | omega
    · first | exact h1 | (exfalso; omega)
  · show up σ 128 9 v 128 9 = _
    unfold up; split
    · first | rfl | omega
    · first | exact h2 | (exfalso; omega)
  · obtain ⟨g1, g2⟩ := h3 q a b
    constructor
    · show up σ 128 9 v 133 q = sG x q
      unfold up; first | (rw [if_neg (by omega)]; exact g1) | (simp only [true_and]; rw [g1])
    · show up σ 128 9 v 134 q = sR x q
      unfold up; first | (rw [if_neg (by omega)]; exact g2) | (simp only [true_and]; rw [g2])
  · obtain ⟨g1, g2⟩ := h4 t a b
    constructor
    · show up σ 128 9 v 135 t = sN x t
      unfold up; first | (rw [if_neg (by omega)]; exact g1) | (simp only [true_and]; rw [g1])
    · show up σ 128 9 v 136 t = sP x t
      unfold up; first | (rw [if_neg (by omega)]; exact g2) | (simp only [true_and]; rw [g2])
theorem StM.upG {σ : Wd} {π : PL} {x : ST} (h : StM σ π x) (i v : Int) : StM (up σ 133 i v) π (sD x, (sM x, (fu (sG x) i v, (sR x, (sN x, sP x))))) := by
  obtain ⟨h1, h2, h3, h4⟩ := h
  refine ⟨?_, ?_, fun q a b => ?_, fun t a b => ?_⟩
  · show up σ 133 i v 128 8 = _
    unfold up; split
    · first | rfl | omega
    · first | exact h1 | (exfalso; omega)
  · show up σ 133 i v 128 9 = _
    unfold up; split
    · first | rfl | omega
    · first | exact h2 | (exfalso; omega)
  · obtain ⟨g1, g2⟩ := h3 q a b
    constructor
    · show up σ 133 i v 133 q = fu (sG x) i v q
      unfold up fu; first | (rw [if_neg (by omega)]; exact g1) | (simp only [true_and]; rw [g1])
    · show up σ 133 i v 134 q = sR x q
      unfold up; first | (rw [if_neg (by omega)]; exact g2) | (simp only [true_and]; rw [g2])
  · obtain ⟨g1, g2⟩ := h4 t a b
    constructor
    · show up σ 133 i v 135 t = sN x t
      unfold up; first | (rw [if_neg (by omega)]; exact g1) | (simp only [true_and]; rw [g1])
    · show up σ 133 i v 136 t = sP x t
      unfold up; first | (rw [if_neg (by omega)]; exact g2) | (simp only [true_and]; rw [g2])
theorem StM.upR {σ : Wd} {π : PL} {x : ST} (h : StM σ π x) (i v : Int) : StM (up σ 134 i v) π (sD x, (sM x, (sG x, (fu (sR x) i v, (sN x, sP x))))) := by
  obtain ⟨h1, h2, h3, h4⟩ := h
  refine ⟨?_, ?_, fun q a b => ?_, fun t a b => ?_⟩
  · show up σ 134 i v 128 8 = _
    unfold up; split
    · first | rfl | omega
    · first | exact h1 | (exfalso; omega)
  · show up σ 134 i v 128 9 = _
    unfold up; split
    · first | rfl | omega
    · first | exact h2 | (exfalso; omega)
  · obtain ⟨g1, g2⟩ := h3 q a b
    constructor
    · show up σ 134 i v 133 q = sG x q
      unfold up; first | (rw [if_neg (by omega)]; exact g1) | (simp only [true_and]; rw [g1])
    · show up σ 134 i v 134 q = fu (sR x) i v q
      unfold up fu; first | (rw [if_neg (by omega)]; exact g2) | (simp only [true_and]; rw [g2])
  · obtain ⟨g1, g2⟩ := h4 t a b
    constructor
    · show up σ 134 i v 135 t = sN x t
      unfold up; first | (rw [if_neg (by omega)]; exact g1) | (simp only [true_and]; rw [g1])
    · show up σ 134 i v 136 t = sP x t
      unfold up; first | (rw [if_neg (by omega)]; exact g2) | (simp only [true_and]; rw [g2])
theorem StM.upN {σ : Wd} {π : PL} {x : ST} (h : StM σ π x) (i v : Int) : StM (up σ 135 i v) π (sD x, (sM x, (sG x, (sR x, (fu (sN x) i v, sP x))))) := by
  obtain ⟨h1, h2, h3, h4⟩ := h
  refine ⟨?_, ?_, fun q a b => ?_, fun t a b => ?_⟩
  · show up σ 135 i v 128 8 = _
    unfold up; split
    · first | rfl | omega
    · first | exact h1 | (exfalso; omega)
  · show up σ 135 i v 128 9 = _
    unfold up; split
    · first | rfl | omega
    · first | exact h2 | (exfalso; omega)
  · obtain ⟨g1, g2⟩ := h3 q a b
    constructor
    · show up σ 135 i v 133 q = sG x q
      unfold up; first | (rw [if_neg (by omega)]; exact g1) | (simp only [true_and]; rw [g1])
    · show up σ 135 i v 134 q = sR x q
      unfold up; first | (rw [if_neg (by omega)]; exact g2) | (simp only [true_and]; rw [g2])
  · obtain ⟨g1, g2⟩ := h4 t a b
    constructor
    · show up σ 135 i v 135 t = fu (sN x) i v t
      unfold up fu; first | (rw [if_neg (by omega)]; exact g1) | (simp only [true_and]; rw [g1])
    · show up σ 135 i v 136 t = sP x t
      unfold up; first | (rw [if_neg (by omega)]; exact g2) | (simp only [true_and]; rw [g2])
theorem StM.upP {σ : Wd} {π : PL} {x : ST} (h : StM σ π x) (i v : Int) : StM (up σ 136 i v) π (sD x, (sM x, (sG x, (sR x, (sN x, fu (sP x) i v))))) := by
  obtain ⟨h1, h2, h3, h4⟩ := h
  refine ⟨?_, ?_, fun q a b => ?_, fun t a b => ?_⟩
  · show up σ 136 i v 128 8 = _
    unfold up; split
    · first | rfl | omega
    · first | exact h1 | (exfalso; omega)
  · show up σ 136 i v 128 9 = _
    unfold up; split
    · first | rfl | omega
    · first | exact h2 | (exfalso; omega)
  · obtain ⟨g1, g2⟩ := h3 q a b
    constructor
    · show up σ 136 i v 133 q = sG x q
      unfold up; first | (rw [if_neg (by omega)]; exact g1) | (simp only [true_and]; rw [g1])
    · show up σ 136 i v 134 q = sR x q
      unfold up; first | (rw [if_neg (by omega)]; exact g2) | (simp only [true_and]; rw [g2])
  · obtain ⟨g1, g2⟩ := h4 t a b
    constructor
    · show up σ 136 i v 135 t = sN x t
      unfold up; first | (rw [if_neg (by omega)]; exact g1) | (simp only [true_and]; rw [g1])
    · show up σ 136 i v 136 t = fu (sP x) i v t
      unfold up fu; first | (rw [if_neg (by omega)]; exact g2) | (simp only [true_and]; rw [g2])
def i_Z_in : List (Nat × (Instr × Nat)) := [(0, (.iload_n 0, 1)), (1, (.iload_n 1, 1)), (2, (.if_icmp .lt 12, 3)), (5, (.iload_n 0, 1)), (6, (.iload_n 2, 1)), (7, (.if_icmp .gt 7, 3)), (10, (.iconst 1, 1)), (11, (.goto 4, 3)), (14, (.iconst 0, 1)), (15, (.ireturn, 1))]
theorem k_Z_in : i_Z_in.all (fun q => decide (decode b_Z_in q.1 = .ok q.2)) = true := by decide +kernel

set_option maxHeartbeats 1000000 in
set_option maxRecDepth 20000 in
theorem c_Z_in (l : Launch) (G : GE) (σ : Wd) (a lo hi : Int) (ha : inR a) (hlo : inR lo) (hhi : inR hi) : Ct l G y_Z_in b_Z_in 3 (some (.boolean)) 0 0 [vI a, vI lo, vI hi] σ (Dt (some (vI (if lo ≤ a ∧ a ≤ hi then 1 else 0))) σ) := by
  refine Ct.of cm_Z_in (Nat.le_of_ble_eq_true rfl) ?_
  intro X hXl hXG hXN hRm C E
  subst hXl; subst hXG
  have ⟨ha_1, ha_2⟩ := ha
  have ⟨hlo_1, hlo_2⟩ := hlo
  have ⟨hhi_1, hhi_2⟩ := hhi
  show V X 0 [some (vI a), some (vI lo), some (vI hi)] [] σ
  refine V_R (fun hR => ?_)
  refine V_iload_n (pc := 0) C (dk k_Z_in 0 rfl) rfl ?_
  refine V_iload_n (pc := 1) C (dk k_Z_in 1 rfl) rfl ?_
  refine V_icmplt (pc := 2) C (dk k_Z_in 2 rfl) 14 rfl (by first | exact hR _ _ | with_reducible assumption | exact ⟨by omega, by omega⟩) (by first | exact hR _ _ | with_reducible assumption | exact ⟨by omega, by omega⟩) (fun h1 => ?_) (fun h1 => ?_)
  · skip
    refine V_iconst (pc := 14) C (dk k_Z_in 8 rfl) rfl ?_
    refine V_zret (pc := 15) C (by first | exact Or.inl rfl | exact Or.inr rfl | (split <;> first | exact Or.inl rfl | exact Or.inr rfl) | omega) E (dk k_Z_in 9 rfl) ?_
    first | exact ⟨rfl, rfl⟩ | (refine ⟨?_, rfl⟩; first | (rw [if_pos (by omega)]; done) | (rw [if_neg (by omega)]; done))
  · skip
    refine V_iload_n (pc := 5) C (dk k_Z_in 3 rfl) rfl ?_
    refine V_iload_n (pc := 6) C (dk k_Z_in 4 rfl) rfl ?_
    refine V_icmpgt (pc := 7) C (dk k_Z_in 5 rfl) 14 rfl (by first | exact hR _ _ | with_reducible assumption | exact ⟨by omega, by omega⟩) (by first | exact hR _ _ | with_reducible assumption | exact ⟨by omega, by omega⟩) (fun h2 => ?_) (fun h2 => ?_)
    · skip
      refine V_iconst (pc := 14) C (dk k_Z_in 8 rfl) rfl ?_
      refine V_zret (pc := 15) C (by first | exact Or.inl rfl | exact Or.inr rfl | (split <;> first | exact Or.inl rfl | exact Or.inr rfl) | omega) E (dk k_Z_in 9 rfl) ?_
      first | exact ⟨rfl, rfl⟩ | (refine ⟨?_, rfl⟩; first | (rw [if_pos (by omega)]; done) | (rw [if_neg (by omega)]; done))
    · skip
      refine V_iconst (pc := 10) C (dk k_Z_in 6 rfl) rfl ?_
      refine V_goto (pc := 11) C (dk k_Z_in 7 rfl) 15 rfl ?_
      refine V_zret (pc := 15) C (by first | exact Or.inl rfl | exact Or.inr rfl | (split <;> first | exact Or.inl rfl | exact Or.inr rfl) | omega) E (dk k_Z_in 9 rfl) ?_
      first | exact ⟨rfl, rfl⟩ | (refine ⟨?_, rfl⟩; first | (rw [if_pos (by omega)]; done) | (rw [if_neg (by omega)]; done))

theorem bitI (b k : Nat) : ((((b : Int) / 2 ^ (k : Int).toNat).toNat &&& ((1 : Int)).toNat : Nat) : Int) = if b.testBit k then 1 else 0 := by
  rw [Int.toNat_natCast]
  have e : ((b : Int) / 2 ^ k).toNat = b / 2 ^ k := by
    have : ((b : Int) / 2 ^ k) = ((b / 2 ^ k : Nat) : Int) := by rw [Int.natCast_ediv, Int.natCast_pow]; rfl
    rw [this, Int.toNat_natCast]
  rw [e]
  show (((b / 2 ^ k) &&& 1 : Nat) : Int) = _
  rw [Nat.and_one_is_mod, ← Nat.shiftRight_eq_div_pow]
  have h2 : b.testBit k = (1 &&& (b >>> k) != 0) := rfl
  rw [h2, Nat.one_and_eq_mod_two]
  rcases Nat.mod_two_eq_zero_or_one (b >>> k) with h | h <;> rw [h] <;> rfl
theorem divI (b k : Nat) : 0 ≤ (b : Int) / 2 ^ (k : Int).toNat ∧ (b : Int) / 2 ^ (k : Int).toNat ≤ b := ⟨Int.ediv_nonneg (by omega) (Int.pow_nonneg (by omega)), Int.ediv_le_self _ (by omega)⟩

def i_Z_has : List (Nat × (Instr × Nat)) := [(0, (.iload_n 0, 1)), (1, (.iload_n 1, 1)), (2, (.ishr, 1)), (3, (.iconst 1, 1)), (4, (.iand, 1)), (5, (.iconst 1, 1)), (6, (.if_icmp .ne 7, 3)), (9, (.iconst 1, 1)), (10, (.goto 4, 3)), (13, (.iconst 0, 1)), (14, (.ireturn, 1))]
theorem k_Z_has : i_Z_has.all (fun q => decide (decode b_Z_has q.1 = .ok q.2)) = true := by decide +kernel

set_option maxHeartbeats 1000000 in
set_option maxRecDepth 20000 in
theorem c_Z_has (l : Launch) (G : GE) (σ : Wd) (b k : Nat) (hb : b < 65536) (hk : k < 31) : Ct l G y_Z_has b_Z_has 2 (some (.boolean)) 0 0 [vI (b : Int), vI (k : Int)] σ (Dt (some (vI (if b.testBit k = true then 1 else 0))) σ) := by
  refine Ct.of cm_Z_has (Nat.le_of_ble_eq_true rfl) ?_
  intro X hXl hXG hXN hRm C E
  subst hXl; subst hXG
  show V X 0 [some (vI (b : Int)), some (vI (k : Int))] [] σ
  refine V_R (fun hR => ?_)
  have ⟨d0, d1⟩ := divI b k
  refine V_iload_n (pc := 0) C (dk k_Z_has 0 rfl) rfl ?_
  refine V_iload_n (pc := 1) C (dk k_Z_has 1 rfl) rfl ?_
  refine V_ishr (pc := 2) C (dk k_Z_has 2 rfl) ⟨by omega, by omega⟩ (by omega) (by omega) (by omega) ?_
  refine V_iconst (pc := 3) C (dk k_Z_has 3 rfl) rfl ?_
  refine V_iand (pc := 4) C (dk k_Z_has 4 rfl) ⟨by omega, by omega⟩ ⟨by decide, by decide⟩ (by omega) (by decide) ?_
  rw [bitI]
  refine V_iconst (pc := 5) C (dk k_Z_has 5 rfl) rfl ?_
  refine V_icmpne (pc := 6) C (dk k_Z_has 6 rfl) 13 rfl (by split <;> exact ⟨by decide, by decide⟩) ⟨by decide, by decide⟩ (fun h1 => ?_) (fun h1 => ?_)
  · skip
    refine V_iconst (pc := 13) C (dk k_Z_has 9 rfl) rfl ?_
    refine V_zret (pc := 14) C (by first | exact Or.inl rfl | exact Or.inr rfl | (split <;> first | exact Or.inl rfl | exact Or.inr rfl) | omega) E (dk k_Z_has 10 rfl) ?_
    refine ⟨?_, rfl⟩
    first | (rw [if_pos]; by_cases hbb : b.testBit k = true; exact hbb; rw [if_neg hbb] at h1; omega) | (rw [if_neg]; intro hbb; rw [if_pos hbb] at h1; omega)
  · skip
    refine V_iconst (pc := 9) C (dk k_Z_has 7 rfl) rfl ?_
    refine V_goto (pc := 10) C (dk k_Z_has 8 rfl) 14 rfl ?_
    refine V_zret (pc := 14) C (by first | exact Or.inl rfl | exact Or.inr rfl | (split <;> first | exact Or.inl rfl | exact Or.inr rfl) | omega) E (dk k_Z_has 10 rfl) ?_
    refine ⟨?_, rfl⟩
    first | (rw [if_pos]; by_cases hbb : b.testBit k = true; exact hbb; rw [if_neg hbb] at h1; omega) | (rw [if_neg]; intro hbb; rw [if_pos hbb] at h1; omega)

def cnt (b : Nat) : Nat → Int
  | 0 => 0
  | n + 1 => cnt b n + (if b.testBit n then 1 else 0)

def i_Z_bits : List (Nat × (Instr × Nat)) := [(0, (.iconst 0, 1)), (1, (.istore_n 1, 1)), (2, (.iconst 0, 1)), (3, (.istore_n 2, 1)), (4, (.iload_n 2, 1)), (5, (.bipush 8, 2)), (7, (.if_icmp .ge 17, 3)), (10, (.iload_n 1, 1)), (11, (.iload_n 0, 1)), (12, (.iload_n 2, 1)), (13, (.ishr, 1)), (14, (.iconst 1, 1)), (15, (.iand, 1)), (16, (.iadd, 1)), (17, (.istore_n 1, 1)), (18, (.iinc 2 1, 3)), (21, (.goto (-17), 3)), (24, (.iload_n 1, 1)), (25, (.ireturn, 1))]
theorem k_Z_bits : i_Z_bits.all (fun q => decide (decode b_Z_bits q.1 = .ok q.2)) = true := by decide +kernel

set_option maxHeartbeats 1000000 in
set_option maxRecDepth 20000 in
theorem c_Z_bits (l : Launch) (G : GE) (σ : Wd) (b : Nat) (hb : b < 65536) : Ct l G y_Z_bits b_Z_bits 3 (some (.int)) 0 0 [vI (b : Int)] σ (Dt (some (vI (cnt b 8))) σ) := by
  refine Ct.of cm_Z_bits (Nat.le_of_ble_eq_true rfl) ?_
  intro X hXl hXG hXN hRm C E
  subst hXl; subst hXG
  show V X 0 [some (vI (b : Int)), none, none] [] σ
  refine V_R (fun hR => ?_)
  refine V_iconst (pc := 0) C (dk k_Z_bits 0 rfl) rfl ?_
  refine V_istore_n (pc := 1) C (dk k_Z_bits 1 rfl) (by rw [hXN]; decide) ?_
  dsimp only [lst, lstL, lz, kill, Fin.val, Nat.reduceAdd]
  refine V_iconst (pc := 2) C (dk k_Z_bits 2 rfl) rfl ?_
  refine V_istore_n (pc := 3) C (dk k_Z_bits 3 rfl) (by rw [hXN]; decide) ?_
  dsimp only [lst, lstL, lz, kill, Fin.val, Nat.reduceAdd]
  refine V_eq (V_loop (fun i : Nat => i ≤ 8) (fun i => [some (vI (b : Int)), some (vI (cnt b i)), some (vI (i : Int))]) (fun _ => σ) (fun i => 8 - i) (fun i hi ih => ?_) 0 (by decide)) rfl rfl rfl
  have ⟨d0, d1⟩ := divI b i
  refine V_iload_n (pc := 4) C (dk k_Z_bits 4 rfl) rfl ?_
  refine V_bipush (pc := 5) (n' := 8) C (dk k_Z_bits 5 rfl) rfl ?_
  refine V_icmpge (pc := 7) C (dk k_Z_bits 6 rfl) 24 rfl (by first | exact hR _ _ | with_reducible assumption | exact ⟨by omega, by omega⟩) (by first | exact hR _ _ | with_reducible assumption | exact ⟨by omega, by omega⟩) (fun h1 => ?_) (fun h1 => ?_)
  · skip
    refine V_iload_n (pc := 24) C (dk k_Z_bits 17 rfl) rfl ?_
    refine V_iret (pc := 25) C E (dk k_Z_bits 18 rfl) ?_
    obtain rfl : i = 8 := by omega
    exact ⟨rfl, rfl⟩
  · skip
    refine V_iload_n (pc := 10) C (dk k_Z_bits 7 rfl) rfl ?_
    refine V_iload_n (pc := 11) C (dk k_Z_bits 8 rfl) rfl ?_
    refine V_iload_n (pc := 12) C (dk k_Z_bits 9 rfl) rfl ?_
    refine V_ishr (pc := 13) C (dk k_Z_bits 10 rfl) ⟨by omega, by omega⟩ (by omega) (by omega) (by omega) ?_
    refine V_iconst (pc := 14) C (dk k_Z_bits 11 rfl) rfl ?_
    refine V_iand (pc := 15) C (dk k_Z_bits 12 rfl) ⟨by omega, by omega⟩ ⟨by decide, by decide⟩ (by omega) (by decide) ?_
    rw [bitI]
    refine V_iadd (pc := 16) C (dk k_Z_bits 13 rfl) ?_
    refine V_istore_n (pc := 17) C (dk k_Z_bits 14 rfl) (by rw [hXN]; decide) ?_
    dsimp only [lst, lstL, lz, kill, Fin.val, Nat.reduceAdd]
    refine V_iinc (pc := 18) C (dk k_Z_bits 15 rfl) (by rw [hXN]; decide) rfl ?_
    dsimp only [lst, lstL, lz, kill, Fin.val, Nat.reduceAdd]
    refine V_goto (pc := 21) C (dk k_Z_bits 16 rfl) 4 rfl ?_
    exact ih (i + 1) (by omega) (by omega)

def i_Z_isPerson : List (Nat × (Instr × Nat)) := [(0, (.iload_n 1, 1)), (1, (.iconst 0, 1)), (2, (.aload_n 0, 1)), (3, (.getfield 73, 3)), (6, (.iconst 1, 1)), (7, (.isub, 1)), (8, (.invokestatic 93, 3)), (11, (.ireturn, 1))]
theorem k_Z_isPerson : i_Z_isPerson.all (fun q => decide (decode b_Z_isPerson q.1 = .ok q.2)) = true := by decide +kernel

set_option maxHeartbeats 1000000 in
set_option maxRecDepth 20000 in
theorem c_Z_isPerson (l : Launch) (G : GE) (σ : Wd) (π : PL) (t : Int) (hπ : PlM σ π) (ok : PLok π) (ht : inR t) : Ct l G y_Z_isPerson b_Z_isPerson 2 (some (.boolean)) 1 22 [vR 128, vI t] σ (Dt (some (vI (if 0 ≤ t ∧ t ≤ pP π - 1 then 1 else 0))) σ) := by
  refine Ct.of cm_Z_isPerson (Nat.le_of_ble_eq_true rfl) ?_
  intro X hXl hXG hXN hRm C E
  subst hXl; subst hXG
  have ⟨ht_1, ht_2⟩ := ht
  show V X 0 [some (vR 128), some (vI t)] [] σ
  refine V_R (fun hR => ?_)
  have hπ0 := hπ
  obtain ⟨e0, e1, e2, e3, eT, eX⟩ := hπ
  have ⟨k1, k2, k3, k4, k5, k6, kT, kX⟩ := ok
  refine V_iload_n (pc := 0) C (dk k_Z_isPerson 0 rfl) rfl ?_
  refine V_iconst (pc := 1) C (dk k_Z_isPerson 1 rfl) rfl ?_
  refine V_aload_n (pc := 2) C (dk k_Z_isPerson 2 rfl) rfl ?_
  refine V_geti (pc := 3) (ji := 0) C (dk k_Z_isPerson 3 rfl) fl_Z_73 kq_128 (by decide) rfl rfl ?_
  refine V_iconst (pc := 6) C (dk k_Z_isPerson 4 rfl) rfl ?_
  rw [e0]
  refine V_isub (pc := 7) C (dk k_Z_isPerson 5 rfl) ?_
  refine V_callS (pc := 8) C (dk k_Z_isPerson 6 rfl) lk_Z_93 cm_Z_in sm_Z_in (c_Z_in _ _ _ t 0 ((pP π : Int) - 1) ht R0 ⟨by omega, by omega⟩) rfl rfl (Nat.le_of_ble_eq_true rfl) (Rm.mono hRm (by decide) (by decide)) ?_
  refine V_zret (pc := 11) C (by first | exact Or.inl rfl | exact Or.inr rfl | (split <;> first | exact Or.inl rfl | exact Or.inr rfl) | omega) E (dk k_Z_isPerson 7 rfl) ?_
  exact ⟨rfl, rfl⟩

def i_Z_isThing : List (Nat × (Instr × Nat)) := [(0, (.iload_n 1, 1)), (1, (.iconst 0, 1)), (2, (.aload_n 0, 1)), (3, (.getfield 81, 3)), (6, (.iconst 1, 1)), (7, (.isub, 1)), (8, (.invokestatic 93, 3)), (11, (.ireturn, 1))]
theorem k_Z_isThing : i_Z_isThing.all (fun q => decide (decode b_Z_isThing q.1 = .ok q.2)) = true := by decide +kernel

set_option maxHeartbeats 1000000 in
set_option maxRecDepth 20000 in
theorem c_Z_isThing (l : Launch) (G : GE) (σ : Wd) (π : PL) (t : Int) (hπ : PlM σ π) (ok : PLok π) (ht : inR t) : Ct l G y_Z_isThing b_Z_isThing 2 (some (.boolean)) 1 22 [vR 128, vI t] σ (Dt (some (vI (if 0 ≤ t ∧ t ≤ pN π - 1 then 1 else 0))) σ) := by
  refine Ct.of cm_Z_isThing (Nat.le_of_ble_eq_true rfl) ?_
  intro X hXl hXG hXN hRm C E
  subst hXl; subst hXG
  have ⟨ht_1, ht_2⟩ := ht
  show V X 0 [some (vR 128), some (vI t)] [] σ
  refine V_R (fun hR => ?_)
  have hπ0 := hπ
  obtain ⟨e0, e1, e2, e3, eT, eX⟩ := hπ
  have ⟨k1, k2, k3, k4, k5, k6, kT, kX⟩ := ok
  refine V_iload_n (pc := 0) C (dk k_Z_isThing 0 rfl) rfl ?_
  refine V_iconst (pc := 1) C (dk k_Z_isThing 1 rfl) rfl ?_
  refine V_aload_n (pc := 2) C (dk k_Z_isThing 2 rfl) rfl ?_
  refine V_geti (pc := 3) (ji := 1) C (dk k_Z_isThing 3 rfl) fl_Z_81 kq_128 (by decide) rfl rfl ?_
  refine V_iconst (pc := 6) C (dk k_Z_isThing 4 rfl) rfl ?_
  rw [e1]
  refine V_isub (pc := 7) C (dk k_Z_isThing 5 rfl) ?_
  refine V_callS (pc := 8) C (dk k_Z_isThing 6 rfl) lk_Z_93 cm_Z_in sm_Z_in (c_Z_in _ _ _ t 0 ((pN π : Int) - 1) ht R0 ⟨by omega, by omega⟩) rfl rfl (Nat.le_of_ble_eq_true rfl) (Rm.mono hRm (by decide) (by decide)) ?_
  refine V_zret (pc := 11) C (by first | exact Or.inl rfl | exact Or.inr rfl | (split <;> first | exact Or.inl rfl | exact Or.inr rfl) | omega) E (dk k_Z_isThing 7 rfl) ?_
  exact ⟨rfl, rfl⟩

def i_Z_rateOf : List (Nat × (Instr × Nat)) := [(0, (.aload_n 0, 1)), (1, (.getfield 84, 3)), (4, (.ifCond .ne 7, 3)), (7, (.iconst 3, 1)), (8, (.goto 14, 3)), (11, (.aload_n 0, 1)), (12, (.getfield 9, 3)), (15, (.iload_n 1, 1)), (16, (.aload_n 0, 1)), (17, (.getfield 84, 3)), (20, (.irem, 1)), (21, (.iaload, 1)), (22, (.ireturn, 1))]
theorem k_Z_rateOf : i_Z_rateOf.all (fun q => decide (decode b_Z_rateOf q.1 = .ok q.2)) = true := by decide +kernel

set_option maxHeartbeats 1000000 in
set_option maxRecDepth 20000 in
theorem c_Z_rateOf (l : Launch) (G : GE) (σ : Wd) (π : PL) (d : Int) (hπ : PlM σ π) (ok : PLok π) (hd : inR d) (hd0 : 0 ≤ d) : Ct l G y_Z_rateOf b_Z_rateOf 2 (some (.int)) 0 0 [vR 128, vI d] σ (Dt (some (vI (rt π d))) σ) := by
  refine Ct.of cm_Z_rateOf (Nat.le_of_ble_eq_true rfl) ?_
  intro X hXl hXG hXN hRm C E
  subst hXl; subst hXG
  have ⟨hd_1, hd_2⟩ := hd
  show V X 0 [some (vR 128), some (vI d)] [] σ
  refine V_R (fun hR => ?_)
  have hπ0 := hπ
  obtain ⟨e0, e1, e2, e3, eT, eX⟩ := hπ
  have ⟨k1, k2, k3, k4, k5, k6, kT, kX⟩ := ok
  refine V_aload_n (pc := 0) C (dk k_Z_rateOf 0 rfl) rfl ?_
  refine V_geti (pc := 1) (ji := 2) C (dk k_Z_rateOf 1 rfl) fl_Z_84 kq_128 (by decide) rfl rfl ?_
  refine V_ifne (pc := 4) C (dk k_Z_rateOf 2 rfl) 11 rfl (by first | exact hR _ _ | with_reducible assumption | exact ⟨by omega, by omega⟩) (fun h1 => ?_) (fun h1 => ?_)
  · skip
    refine V_aload_n (pc := 11) C (dk k_Z_rateOf 5 rfl) rfl ?_
    refine V_getr (pc := 12) (o2 := 129) C (dk k_Z_rateOf 6 rfl) fl_Z_9 kq_128 (by decide) rfl (by decide) rfl ?_
    refine V_iload_n (pc := 15) C (dk k_Z_rateOf 7 rfl) rfl ?_
    refine V_aload_n (pc := 16) C (dk k_Z_rateOf 8 rfl) rfl ?_
    refine V_geti (pc := 17) (ji := 2) C (dk k_Z_rateOf 9 rfl) fl_Z_84 kq_128 (by decide) rfl rfl ?_
    have hm0 := Int.emod_nonneg d (b := σ 128 2) (by omega)
    have hm1 := Int.emod_lt_of_pos d (b := σ 128 2) (by omega)
    refine V_irem (pc := 20) C (dk k_Z_rateOf 10 rfl) (by first | exact hR _ _ | with_reducible assumption | exact ⟨by omega, by omega⟩) (by first | exact hR _ _ | with_reducible assumption | exact ⟨by omega, by omega⟩) (by omega) (by omega) ?_
    rw [e2] at hm0 hm1 ⊢
    refine V_iald (pc := 21) C (dk k_Z_rateOf 11 rfl) kq_129 (by decide) hm0 (by omega) ?_
    refine V_iret (pc := 22) C E (dk k_Z_rateOf 12 rfl) ?_
    refine ⟨congrArg some (congrArg Sum.inl ?_), rfl⟩
    unfold rt
    first | (rw [if_neg (by omega)]; exact eX _ hm0 hm1) | (rw [if_pos (by omega)])
  · skip
    refine V_iconst (pc := 7) C (dk k_Z_rateOf 3 rfl) rfl ?_
    refine V_goto (pc := 8) C (dk k_Z_rateOf 4 rfl) 22 rfl ?_
    refine V_iret (pc := 22) C E (dk k_Z_rateOf 12 rfl) ?_
    refine ⟨congrArg some (congrArg Sum.inl ?_), rfl⟩
    unfold rt
    first | (rw [if_neg (by omega)]; exact eX _ hm0 hm1) | (rw [if_pos (by omega)])

def i_Z_price : List (Nat × (Instr × Nat)) := [(0, (.aload_n 0, 1)), (1, (.getfield 28, 3)), (4, (.iload_n 1, 1)), (5, (.iaload, 1)), (6, (.aload_n 0, 1)), (7, (.aload_n 0, 1)), (8, (.getfield 150, 3)), (11, (.invokevirtual 162, 3)), (14, (.imul, 1)), (15, (.ireturn, 1))]
theorem k_Z_price : i_Z_price.all (fun q => decide (decode b_Z_price q.1 = .ok q.2)) = true := by decide +kernel

set_option maxHeartbeats 1000000 in
set_option maxRecDepth 20000 in
theorem c_Z_price (l : Launch) (G : GE) (σ : Wd) (π : PL) (x : ST) (j t : Int) (hπ : PlM σ π) (ok : PLok π) (hx : StM σ π x) (xk : STok π x j) (hj : j ≤ 200) (ht0 : 0 ≤ t) (ht1 : t < pN π) : Ct l G y_Z_price b_Z_price 2 (some (.int)) 1 21 [vR 128, vI t] σ (Dt (some (vI (prc π x t))) σ) := by
  refine Ct.of cm_Z_price (Nat.le_of_ble_eq_true rfl) ?_
  intro X hXl hXG hXN hRm C E
  subst hXl; subst hXG
  show V X 0 [some (vR 128), some (vI t)] [] σ
  refine V_R (fun hR => ?_)
  have hπ0 := hπ
  obtain ⟨e0, e1, e2, e3, eT, eX⟩ := hπ
  have ⟨k1, k2, k3, k4, k5, k6, kT, kX⟩ := ok
  have hx0 := hx
  obtain ⟨f0, f1, fQ, fT⟩ := hx
  have ⟨x1, x2, x3, x4, xQ, xT⟩ := xk
  obtain ⟨fN, fP⟩ := fT t ht0 ht1
  obtain ⟨tO, tK, tU⟩ := eT t ht0 ht1
  obtain ⟨kO0, kO1, kK0, kK1, kU0, kU1⟩ := kT t ht0 ht1
  obtain ⟨xN0, xN1, xP0, xP1, xPN⟩ := xT t ht0 ht1
  refine V_aload_n (pc := 0) C (dk k_Z_price 0 rfl) rfl ?_
  refine V_getr (pc := 1) (o2 := 135) C (dk k_Z_price 1 rfl) fl_Z_28 kq_128 (by decide) rfl (by decide) rfl ?_
  refine V_iload_n (pc := 4) C (dk k_Z_price 2 rfl) rfl ?_
  refine V_iald (pc := 5) C (dk k_Z_price 3 rfl) kq_135 (by decide) (by omega) (by omega) ?_
  refine V_aload_n (pc := 6) C (dk k_Z_price 4 rfl) rfl ?_
  refine V_aload_n (pc := 7) C (dk k_Z_price 5 rfl) rfl ?_
  refine V_geti (pc := 8) (ji := 8) C (dk k_Z_price 6 rfl) fl_Z_150 kq_128 (by decide) rfl rfl ?_
  rw [f0]
  refine V_callV (pc := 11) C (dk k_Z_price 7 rfl) lk_Z_162 cm_Z_rateOf vm_Z_rateOf (c_Z_rateOf _ _ _ π (sD x) hπ0 ok ⟨by omega, by omega⟩ (by omega)) kq_128 rfl rfl rfl (Nat.le_of_ble_eq_true rfl) (Rm.mono hRm (by decide) (by decide)) ?_
  refine V_imul (pc := 14) C (dk k_Z_price 8 rfl) ?_
  refine V_iret (pc := 15) C E (dk k_Z_price 9 rfl) ?_
  exact ⟨by unfold prc; rw [fN], rfl⟩

def i_Z_nearThen : List (Nat × (Instr × Nat)) := [(0, (.iload_n 0, 1)), (1, (.iconst 1, 1)), (2, (.if_icmp .ne 9, 3)), (5, (.iload_n 1, 1)), (6, (.iconst 2, 1)), (7, (.iadd, 1)), (8, (.goto 30, 3)), (11, (.iload_n 0, 1)), (12, (.iconst 2, 1)), (13, (.if_icmp .ne 11, 3)), (16, (.iload_n 1, 1)), (17, (.iload_n 2, 1)), (18, (.iconst 2, 1)), (19, (.irem, 1)), (20, (.isub, 1)), (21, (.goto 17, 3)), (24, (.iload_n 0, 1)), (25, (.iconst 3, 1)), (26, (.if_icmp .ne 9, 3)), (29, (.iload_n 1, 1)), (30, (.iconst 2, 1)), (31, (.isub, 1)), (32, (.goto 6, 3)), (35, (.iload_n 1, 1)), (36, (.iconst 1, 1)), (37, (.iadd, 1)), (38, (.istore_n 3, 1)), (39, (.iload_n 3, 1)), (40, (.bipush 99, 2)), (42, (.if_icmp .le 8, 3)), (45, (.bipush 99, 2)), (47, (.goto 12, 3)), (50, (.iload_n 3, 1)), (51, (.ifCond .ge 7, 3)), (54, (.iconst 0, 1)), (55, (.goto 4, 3)), (58, (.iload_n 3, 1)), (59, (.ireturn, 1))]
theorem k_Z_nearThen : i_Z_nearThen.all (fun q => decide (decode b_Z_nearThen q.1 = .ok q.2)) = true := by decide +kernel

set_option maxHeartbeats 1000000 in
set_option maxRecDepth 20000 in
theorem c_Z_nearThen (l : Launch) (G : GE) (σ : Wd) (k n d : Int) (hk : inR k) (hn0 : 1 ≤ n) (hn1 : n ≤ 99) (hd : inR d) (hd0 : 0 ≤ d) : Ct l G y_Z_nearThen b_Z_nearThen 4 (some (.int)) 0 0 [vI k, vI n, vI d] σ (Dt (some (vI (nx k n d))) σ) := by
  refine Ct.of cm_Z_nearThen (Nat.le_of_ble_eq_true rfl) ?_
  intro X hXl hXG hXN hRm C E
  subst hXl; subst hXG
  have ⟨hk_1, hk_2⟩ := hk
  have ⟨hd_1, hd_2⟩ := hd
  show V X 0 [some (vI k), some (vI n), some (vI d), none] [] σ
  refine V_R (fun hR => ?_)
  have m0 := Int.emod_nonneg d (b := 2) (by decide)
  have m1 := Int.emod_lt_of_pos d (b := 2) (by decide)
  refine V_iload_n (pc := 0) C (dk k_Z_nearThen 0 rfl) rfl ?_
  refine V_iconst (pc := 1) C (dk k_Z_nearThen 1 rfl) rfl ?_
  refine V_icmpne (pc := 2) C (dk k_Z_nearThen 2 rfl) 11 rfl (by first | exact hR _ _ | with_reducible assumption | exact ⟨by omega, by omega⟩) (by first | exact hR _ _ | with_reducible assumption | exact ⟨by omega, by omega⟩) (fun h1 => ?_) (fun h1 => ?_)
  · skip
    refine V_iload_n (pc := 11) C (dk k_Z_nearThen 7 rfl) rfl ?_
    refine V_iconst (pc := 12) C (dk k_Z_nearThen 8 rfl) rfl ?_
    refine V_icmpne (pc := 13) C (dk k_Z_nearThen 9 rfl) 24 rfl (by first | exact hR _ _ | with_reducible assumption | exact ⟨by omega, by omega⟩) (by first | exact hR _ _ | with_reducible assumption | exact ⟨by omega, by omega⟩) (fun h2 => ?_) (fun h2 => ?_)
    · skip
      refine V_iload_n (pc := 24) C (dk k_Z_nearThen 16 rfl) rfl ?_
      refine V_iconst (pc := 25) C (dk k_Z_nearThen 17 rfl) rfl ?_
      refine V_icmpne (pc := 26) C (dk k_Z_nearThen 18 rfl) 35 rfl (by first | exact hR _ _ | with_reducible assumption | exact ⟨by omega, by omega⟩) (by first | exact hR _ _ | with_reducible assumption | exact ⟨by omega, by omega⟩) (fun h3 => ?_) (fun h3 => ?_)
      · skip
        refine V_iload_n (pc := 35) C (dk k_Z_nearThen 23 rfl) rfl ?_
        refine V_iconst (pc := 36) C (dk k_Z_nearThen 24 rfl) rfl ?_
        refine V_iadd (pc := 37) C (dk k_Z_nearThen 25 rfl) ?_
        refine V_istore_n (pc := 38) C (dk k_Z_nearThen 26 rfl) (by rw [hXN]; decide) ?_
        dsimp only [lst, lstL, lz, kill, Fin.val, Nat.reduceAdd]
        refine V_iload_n (pc := 39) C (dk k_Z_nearThen 27 rfl) rfl ?_
        refine V_bipush (pc := 40) (n' := 99) C (dk k_Z_nearThen 28 rfl) rfl ?_
        refine V_icmple (pc := 42) C (dk k_Z_nearThen 29 rfl) 50 rfl (by first | exact hR _ _ | with_reducible assumption | exact ⟨by omega, by omega⟩) (by first | exact hR _ _ | with_reducible assumption | exact ⟨by omega, by omega⟩) (fun h4 => ?_) (fun h4 => ?_)
        · skip
          refine V_iload_n (pc := 50) C (dk k_Z_nearThen 32 rfl) rfl ?_
          refine V_ifge (pc := 51) C (dk k_Z_nearThen 33 rfl) 58 rfl (by first | exact hR _ _ | with_reducible assumption | exact ⟨by omega, by omega⟩) (fun h5 => ?_) (fun h5 => ?_)
          · skip
            refine V_iload_n (pc := 58) C (dk k_Z_nearThen 36 rfl) rfl ?_
            refine V_iret (pc := 59) C E (dk k_Z_nearThen 37 rfl) ?_
            refine ⟨congrArg some (congrArg Sum.inl ?_), rfl⟩
            unfold nx
            rw [if_neg (by omega)]
            repeat rw [if_neg (by omega)]
            repeat rw [if_pos (by omega)]
            all_goals first | omega | (split <;> omega)
          · skip
            refine V_iconst (pc := 54) C (dk k_Z_nearThen 34 rfl) rfl ?_
            refine V_goto (pc := 55) C (dk k_Z_nearThen 35 rfl) 59 rfl ?_
            refine V_iret (pc := 59) C E (dk k_Z_nearThen 37 rfl) ?_
            refine ⟨congrArg some (congrArg Sum.inl ?_), rfl⟩
            unfold nx
            rw [if_neg (by omega)]
            repeat rw [if_neg (by omega)]
            repeat rw [if_pos (by omega)]
            all_goals first | omega | (split <;> omega)
        · skip
          refine V_bipush (pc := 45) (n' := 99) C (dk k_Z_nearThen 30 rfl) rfl ?_
          refine V_goto (pc := 47) C (dk k_Z_nearThen 31 rfl) 59 rfl ?_
          refine V_iret (pc := 59) C E (dk k_Z_nearThen 37 rfl) ?_
          refine ⟨congrArg some (congrArg Sum.inl ?_), rfl⟩
          unfold nx
          rw [if_neg (by omega)]
          repeat rw [if_neg (by omega)]
          repeat rw [if_pos (by omega)]
          all_goals first | omega | (split <;> omega)
      · skip
        refine V_iload_n (pc := 29) C (dk k_Z_nearThen 19 rfl) rfl ?_
        refine V_iconst (pc := 30) C (dk k_Z_nearThen 20 rfl) rfl ?_
        refine V_isub (pc := 31) C (dk k_Z_nearThen 21 rfl) ?_
        refine V_goto (pc := 32) C (dk k_Z_nearThen 22 rfl) 38 rfl ?_
        refine V_istore_n (pc := 38) C (dk k_Z_nearThen 26 rfl) (by rw [hXN]; decide) ?_
        dsimp only [lst, lstL, lz, kill, Fin.val, Nat.reduceAdd]
        refine V_iload_n (pc := 39) C (dk k_Z_nearThen 27 rfl) rfl ?_
        refine V_bipush (pc := 40) (n' := 99) C (dk k_Z_nearThen 28 rfl) rfl ?_
        refine V_icmple (pc := 42) C (dk k_Z_nearThen 29 rfl) 50 rfl (by first | exact hR _ _ | with_reducible assumption | exact ⟨by omega, by omega⟩) (by first | exact hR _ _ | with_reducible assumption | exact ⟨by omega, by omega⟩) (fun h6 => ?_) (fun h6 => ?_)
        · skip
          refine V_iload_n (pc := 50) C (dk k_Z_nearThen 32 rfl) rfl ?_
          refine V_ifge (pc := 51) C (dk k_Z_nearThen 33 rfl) 58 rfl (by first | exact hR _ _ | with_reducible assumption | exact ⟨by omega, by omega⟩) (fun h7 => ?_) (fun h7 => ?_)
          · skip
            refine V_iload_n (pc := 58) C (dk k_Z_nearThen 36 rfl) rfl ?_
            refine V_iret (pc := 59) C E (dk k_Z_nearThen 37 rfl) ?_
            refine ⟨congrArg some (congrArg Sum.inl ?_), rfl⟩
            unfold nx
            rw [if_neg (by omega)]
            repeat rw [if_neg (by omega)]
            repeat rw [if_pos (by omega)]
            all_goals first | omega | (split <;> omega)
          · skip
            refine V_iconst (pc := 54) C (dk k_Z_nearThen 34 rfl) rfl ?_
            refine V_goto (pc := 55) C (dk k_Z_nearThen 35 rfl) 59 rfl ?_
            refine V_iret (pc := 59) C E (dk k_Z_nearThen 37 rfl) ?_
            refine ⟨congrArg some (congrArg Sum.inl ?_), rfl⟩
            unfold nx
            rw [if_neg (by omega)]
            repeat rw [if_neg (by omega)]
            repeat rw [if_pos (by omega)]
            all_goals first | omega | (split <;> omega)
        · skip
          refine V_bipush (pc := 45) (n' := 99) C (dk k_Z_nearThen 30 rfl) rfl ?_
          refine V_goto (pc := 47) C (dk k_Z_nearThen 31 rfl) 59 rfl ?_
          refine V_iret (pc := 59) C E (dk k_Z_nearThen 37 rfl) ?_
          refine ⟨congrArg some (congrArg Sum.inl ?_), rfl⟩
          unfold nx
          rw [if_neg (by omega)]
          repeat rw [if_neg (by omega)]
          repeat rw [if_pos (by omega)]
          all_goals first | omega | (split <;> omega)
    · skip
      refine V_iload_n (pc := 16) C (dk k_Z_nearThen 10 rfl) rfl ?_
      refine V_iload_n (pc := 17) C (dk k_Z_nearThen 11 rfl) rfl ?_
      refine V_iconst (pc := 18) C (dk k_Z_nearThen 12 rfl) rfl ?_
      refine V_irem (pc := 19) C (dk k_Z_nearThen 13 rfl) (by first | exact hR _ _ | with_reducible assumption | exact ⟨by omega, by omega⟩) (by first | exact hR _ _ | with_reducible assumption | exact ⟨by omega, by omega⟩) (by omega) (by omega) ?_
      refine V_isub (pc := 20) C (dk k_Z_nearThen 14 rfl) ?_
      refine V_goto (pc := 21) C (dk k_Z_nearThen 15 rfl) 38 rfl ?_
      refine V_istore_n (pc := 38) C (dk k_Z_nearThen 26 rfl) (by rw [hXN]; decide) ?_
      dsimp only [lst, lstL, lz, kill, Fin.val, Nat.reduceAdd]
      refine V_iload_n (pc := 39) C (dk k_Z_nearThen 27 rfl) rfl ?_
      refine V_bipush (pc := 40) (n' := 99) C (dk k_Z_nearThen 28 rfl) rfl ?_
      refine V_icmple (pc := 42) C (dk k_Z_nearThen 29 rfl) 50 rfl (by first | exact hR _ _ | with_reducible assumption | exact ⟨by omega, by omega⟩) (by first | exact hR _ _ | with_reducible assumption | exact ⟨by omega, by omega⟩) (fun h8 => ?_) (fun h8 => ?_)
      · skip
        refine V_iload_n (pc := 50) C (dk k_Z_nearThen 32 rfl) rfl ?_
        refine V_ifge (pc := 51) C (dk k_Z_nearThen 33 rfl) 58 rfl (by first | exact hR _ _ | with_reducible assumption | exact ⟨by omega, by omega⟩) (fun h9 => ?_) (fun h9 => ?_)
        · skip
          refine V_iload_n (pc := 58) C (dk k_Z_nearThen 36 rfl) rfl ?_
          refine V_iret (pc := 59) C E (dk k_Z_nearThen 37 rfl) ?_
          refine ⟨congrArg some (congrArg Sum.inl ?_), rfl⟩
          unfold nx
          rw [if_neg (by omega)]
          repeat rw [if_neg (by omega)]
          repeat rw [if_pos (by omega)]
          all_goals first | omega | (split <;> omega)
        · skip
          refine V_iconst (pc := 54) C (dk k_Z_nearThen 34 rfl) rfl ?_
          refine V_goto (pc := 55) C (dk k_Z_nearThen 35 rfl) 59 rfl ?_
          refine V_iret (pc := 59) C E (dk k_Z_nearThen 37 rfl) ?_
          refine ⟨congrArg some (congrArg Sum.inl ?_), rfl⟩
          unfold nx
          rw [if_neg (by omega)]
          repeat rw [if_neg (by omega)]
          repeat rw [if_pos (by omega)]
          all_goals first | omega | (split <;> omega)
      · skip
        refine V_bipush (pc := 45) (n' := 99) C (dk k_Z_nearThen 30 rfl) rfl ?_
        refine V_goto (pc := 47) C (dk k_Z_nearThen 31 rfl) 59 rfl ?_
        refine V_iret (pc := 59) C E (dk k_Z_nearThen 37 rfl) ?_
        refine ⟨congrArg some (congrArg Sum.inl ?_), rfl⟩
        unfold nx
        rw [if_neg (by omega)]
        repeat rw [if_neg (by omega)]
        repeat rw [if_pos (by omega)]
        all_goals first | omega | (split <;> omega)
  · skip
    refine V_iload_n (pc := 5) C (dk k_Z_nearThen 3 rfl) rfl ?_
    refine V_iconst (pc := 6) C (dk k_Z_nearThen 4 rfl) rfl ?_
    refine V_iadd (pc := 7) C (dk k_Z_nearThen 5 rfl) ?_
    refine V_goto (pc := 8) C (dk k_Z_nearThen 6 rfl) 38 rfl ?_
    refine V_istore_n (pc := 38) C (dk k_Z_nearThen 26 rfl) (by rw [hXN]; decide) ?_
    dsimp only [lst, lstL, lz, kill, Fin.val, Nat.reduceAdd]
    refine V_iload_n (pc := 39) C (dk k_Z_nearThen 27 rfl) rfl ?_
    refine V_bipush (pc := 40) (n' := 99) C (dk k_Z_nearThen 28 rfl) rfl ?_
    refine V_icmple (pc := 42) C (dk k_Z_nearThen 29 rfl) 50 rfl (by first | exact hR _ _ | with_reducible assumption | exact ⟨by omega, by omega⟩) (by first | exact hR _ _ | with_reducible assumption | exact ⟨by omega, by omega⟩) (fun h10 => ?_) (fun h10 => ?_)
    · skip
      refine V_iload_n (pc := 50) C (dk k_Z_nearThen 32 rfl) rfl ?_
      refine V_ifge (pc := 51) C (dk k_Z_nearThen 33 rfl) 58 rfl (by first | exact hR _ _ | with_reducible assumption | exact ⟨by omega, by omega⟩) (fun h11 => ?_) (fun h11 => ?_)
      · skip
        refine V_iload_n (pc := 58) C (dk k_Z_nearThen 36 rfl) rfl ?_
        refine V_iret (pc := 59) C E (dk k_Z_nearThen 37 rfl) ?_
        refine ⟨congrArg some (congrArg Sum.inl ?_), rfl⟩
        unfold nx
        rw [if_neg (by omega)]
        repeat rw [if_neg (by omega)]
        repeat rw [if_pos (by omega)]
        all_goals first | omega | (split <;> omega)
      · skip
        refine V_iconst (pc := 54) C (dk k_Z_nearThen 34 rfl) rfl ?_
        refine V_goto (pc := 55) C (dk k_Z_nearThen 35 rfl) 59 rfl ?_
        refine V_iret (pc := 59) C E (dk k_Z_nearThen 37 rfl) ?_
        refine ⟨congrArg some (congrArg Sum.inl ?_), rfl⟩
        unfold nx
        rw [if_neg (by omega)]
        repeat rw [if_neg (by omega)]
        repeat rw [if_pos (by omega)]
        all_goals first | omega | (split <;> omega)
    · skip
      refine V_bipush (pc := 45) (n' := 99) C (dk k_Z_nearThen 30 rfl) rfl ?_
      refine V_goto (pc := 47) C (dk k_Z_nearThen 31 rfl) 59 rfl ?_
      refine V_iret (pc := 59) C E (dk k_Z_nearThen 37 rfl) ?_
      refine ⟨congrArg some (congrArg Sum.inl ?_), rfl⟩
      unfold nx
      rw [if_neg (by omega)]
      repeat rw [if_neg (by omega)]
      repeat rw [if_pos (by omega)]
      all_goals first | omega | (split <;> omega)

def i_Z_maySell : List (Nat × (Instr × Nat)) := [(0, (.aload_n 0, 1)), (1, (.getfield 31, 3)), (4, (.iload_n 1, 1)), (5, (.iaload, 1)), (6, (.ifCond .ne 32, 3)), (9, (.aload_n 0, 1)), (10, (.getfield 28, 3)), (13, (.iload_n 1, 1)), (14, (.iaload, 1)), (15, (.aload_n 0, 1)), (16, (.getfield 90, 3)), (19, (.if_icmp .lt 19, 3)), (22, (.aload_n 0, 1)), (23, (.iload_n 1, 1)), (24, (.invokevirtual 183, 3)), (27, (.aload_n 0, 1)), (28, (.getfield 87, 3)), (31, (.if_icmp .gt 7, 3)), (34, (.iconst 1, 1)), (35, (.goto 4, 3)), (38, (.iconst 0, 1)), (39, (.ireturn, 1))]
theorem k_Z_maySell : i_Z_maySell.all (fun q => decide (decode b_Z_maySell q.1 = .ok q.2)) = true := by decide +kernel

set_option maxHeartbeats 1000000 in
set_option maxRecDepth 20000 in
theorem c_Z_maySell (l : Launch) (G : GE) (σ : Wd) (π : PL) (x : ST) (j t : Int) (hπ : PlM σ π) (ok : PLok π) (hx : StM σ π x) (xk : STok π x j) (hj : j ≤ 200) (ht0 : 0 ≤ t) (ht1 : t < pN π) : Ct l G y_Z_maySell b_Z_maySell 2 (some (.boolean)) 2 42 [vR 128, vI t] σ (Dt (some (vI (if (sP x t = 0 ∧ pL π ≤ sN x t) ∧ prc π x t ≤ sM x then 1 else 0))) σ) := by
  refine Ct.of cm_Z_maySell (Nat.le_of_ble_eq_true rfl) ?_
  intro X hXl hXG hXN hRm C E
  subst hXl; subst hXG
  show V X 0 [some (vR 128), some (vI t)] [] σ
  refine V_R (fun hR => ?_)
  have hπ0 := hπ
  obtain ⟨e0, e1, e2, e3, eT, eX⟩ := hπ
  have ⟨k1, k2, k3, k4, k5, k6, kT, kX⟩ := ok
  have hx0 := hx
  obtain ⟨f0, f1, fQ, fT⟩ := hx
  have ⟨x1, x2, x3, x4, xQ, xT⟩ := xk
  obtain ⟨fN, fP⟩ := fT t ht0 ht1
  obtain ⟨tO, tK, tU⟩ := eT t ht0 ht1
  obtain ⟨kO0, kO1, kK0, kK1, kU0, kU1⟩ := kT t ht0 ht1
  obtain ⟨xN0, xN1, xP0, xP1, xPN⟩ := xT t ht0 ht1
  have hpr := prc_b ok xk ht0 ht1
  refine V_aload_n (pc := 0) C (dk k_Z_maySell 0 rfl) rfl ?_
  refine V_getr (pc := 1) (o2 := 136) C (dk k_Z_maySell 1 rfl) fl_Z_31 kq_128 (by decide) rfl (by decide) rfl ?_
  refine V_iload_n (pc := 4) C (dk k_Z_maySell 2 rfl) rfl ?_
  refine V_iald (pc := 5) C (dk k_Z_maySell 3 rfl) kq_136 (by decide) (by omega) (by omega) ?_
  refine V_ifne (pc := 6) C (dk k_Z_maySell 4 rfl) 38 rfl (by first | exact hR _ _ | with_reducible assumption | exact ⟨by omega, by omega⟩) (fun h1 => ?_) (fun h1 => ?_)
  · skip
    refine V_iconst (pc := 38) C (dk k_Z_maySell 20 rfl) rfl ?_
    refine V_zret (pc := 39) C (by first | exact Or.inl rfl | exact Or.inr rfl | (split <;> first | exact Or.inl rfl | exact Or.inr rfl) | omega) E (dk k_Z_maySell 21 rfl) ?_
    refine ⟨?_, rfl⟩
    first | rw [if_pos ⟨by omega, by omega⟩] | rw [if_neg (fun q => by omega)]
  · skip
    refine V_aload_n (pc := 9) C (dk k_Z_maySell 5 rfl) rfl ?_
    refine V_getr (pc := 10) (o2 := 135) C (dk k_Z_maySell 6 rfl) fl_Z_28 kq_128 (by decide) rfl (by decide) rfl ?_
    refine V_iload_n (pc := 13) C (dk k_Z_maySell 7 rfl) rfl ?_
    refine V_iald (pc := 14) C (dk k_Z_maySell 8 rfl) kq_135 (by decide) (by omega) (by omega) ?_
    refine V_aload_n (pc := 15) C (dk k_Z_maySell 9 rfl) rfl ?_
    refine V_geti (pc := 16) (ji := 3) C (dk k_Z_maySell 10 rfl) fl_Z_90 kq_128 (by decide) rfl rfl ?_
    refine V_icmplt (pc := 19) C (dk k_Z_maySell 11 rfl) 38 rfl (by first | exact hR _ _ | with_reducible assumption | exact ⟨by omega, by omega⟩) (by first | exact hR _ _ | with_reducible assumption | exact ⟨by omega, by omega⟩) (fun h2 => ?_) (fun h2 => ?_)
    · skip
      refine V_iconst (pc := 38) C (dk k_Z_maySell 20 rfl) rfl ?_
      refine V_zret (pc := 39) C (by first | exact Or.inl rfl | exact Or.inr rfl | (split <;> first | exact Or.inl rfl | exact Or.inr rfl) | omega) E (dk k_Z_maySell 21 rfl) ?_
      refine ⟨?_, rfl⟩
      first | rw [if_pos ⟨by omega, by omega⟩] | rw [if_neg (fun q => by omega)]
    · skip
      refine V_aload_n (pc := 22) C (dk k_Z_maySell 12 rfl) rfl ?_
      refine V_iload_n (pc := 23) C (dk k_Z_maySell 13 rfl) rfl ?_
      refine V_callV (pc := 24) C (dk k_Z_maySell 14 rfl) lk_Z_183 cm_Z_price vm_Z_price (c_Z_price _ _ _ π x j t hπ0 ok hx0 xk hj ht0 ht1) kq_128 rfl rfl rfl (Nat.le_of_ble_eq_true rfl) (Rm.mono hRm (by decide) (by decide)) ?_
      refine V_aload_n (pc := 27) C (dk k_Z_maySell 15 rfl) rfl ?_
      refine V_geti (pc := 28) (ji := 9) C (dk k_Z_maySell 16 rfl) fl_Z_87 kq_128 (by decide) rfl rfl ?_
      refine V_icmpgt (pc := 31) C (dk k_Z_maySell 17 rfl) 38 rfl (by first | exact hR _ _ | with_reducible assumption | exact ⟨by omega, by omega⟩) (by first | exact hR _ _ | with_reducible assumption | exact ⟨by omega, by omega⟩) (fun h3 => ?_) (fun h3 => ?_)
      · skip
        refine V_iconst (pc := 38) C (dk k_Z_maySell 20 rfl) rfl ?_
        refine V_zret (pc := 39) C (by first | exact Or.inl rfl | exact Or.inr rfl | (split <;> first | exact Or.inl rfl | exact Or.inr rfl) | omega) E (dk k_Z_maySell 21 rfl) ?_
        refine ⟨?_, rfl⟩
        first | rw [if_pos ⟨by omega, by omega⟩] | rw [if_neg (fun q => by omega)]
      · skip
        refine V_iconst (pc := 34) C (dk k_Z_maySell 18 rfl) rfl ?_
        refine V_goto (pc := 35) C (dk k_Z_maySell 19 rfl) 39 rfl ?_
        refine V_zret (pc := 39) C (by first | exact Or.inl rfl | exact Or.inr rfl | (split <;> first | exact Or.inl rfl | exact Or.inr rfl) | omega) E (dk k_Z_maySell 21 rfl) ?_
        refine ⟨?_, rfl⟩
        first | rw [if_pos ⟨by omega, by omega⟩] | rw [if_neg (fun q => by omega)]

def i_Z_mayBuy : List (Nat × (Instr × Nat)) := [(0, (.aload_n 0, 1)), (1, (.getfield 31, 3)), (4, (.iload_n 1, 1)), (5, (.iaload, 1)), (6, (.iconst 1, 1)), (7, (.if_icmp .ne 26, 3)), (10, (.aload_n 0, 1)), (11, (.iload_n 1, 1)), (12, (.invokevirtual 183, 3)), (15, (.aload_n 0, 1)), (16, (.getfield 22, 3)), (19, (.aload_n 0, 1)), (20, (.getfield 13, 3)), (23, (.iload_n 1, 1)), (24, (.iaload, 1)), (25, (.iaload, 1)), (26, (.if_icmp .gt 7, 3)), (29, (.iconst 1, 1)), (30, (.goto 4, 3)), (33, (.iconst 0, 1)), (34, (.ireturn, 1))]
theorem k_Z_mayBuy : i_Z_mayBuy.all (fun q => decide (decode b_Z_mayBuy q.1 = .ok q.2)) = true := by decide +kernel

set_option maxHeartbeats 1000000 in
set_option maxRecDepth 20000 in
theorem c_Z_mayBuy (l : Launch) (G : GE) (σ : Wd) (π : PL) (x : ST) (j t : Int) (hπ : PlM σ π) (ok : PLok π) (hx : StM σ π x) (xk : STok π x j) (hj : j ≤ 200) (ht0 : 0 ≤ t) (ht1 : t < pN π) : Ct l G y_Z_mayBuy b_Z_mayBuy 2 (some (.boolean)) 2 42 [vR 128, vI t] σ (Dt (some (vI (if sP x t = 1 ∧ prc π x t ≤ sG x (pO π t) then 1 else 0))) σ) := by
  refine Ct.of cm_Z_mayBuy (Nat.le_of_ble_eq_true rfl) ?_
  intro X hXl hXG hXN hRm C E
  subst hXl; subst hXG
  show V X 0 [some (vR 128), some (vI t)] [] σ
  refine V_R (fun hR => ?_)
  have hπ0 := hπ
  obtain ⟨e0, e1, e2, e3, eT, eX⟩ := hπ
  have ⟨k1, k2, k3, k4, k5, k6, kT, kX⟩ := ok
  have hx0 := hx
  obtain ⟨f0, f1, fQ, fT⟩ := hx
  have ⟨x1, x2, x3, x4, xQ, xT⟩ := xk
  obtain ⟨fN, fP⟩ := fT t ht0 ht1
  obtain ⟨tO, tK, tU⟩ := eT t ht0 ht1
  obtain ⟨kO0, kO1, kK0, kK1, kU0, kU1⟩ := kT t ht0 ht1
  obtain ⟨xN0, xN1, xP0, xP1, xPN⟩ := xT t ht0 ht1
  have hpr := prc_b ok xk ht0 ht1
  obtain ⟨fG, fR⟩ := fQ _ kO0 kO1
  obtain ⟨g1, g2, g3, g4⟩ := xQ _ kO0 kO1
  refine V_aload_n (pc := 0) C (dk k_Z_mayBuy 0 rfl) rfl ?_
  refine V_getr (pc := 1) (o2 := 136) C (dk k_Z_mayBuy 1 rfl) fl_Z_31 kq_128 (by decide) rfl (by decide) rfl ?_
  refine V_iload_n (pc := 4) C (dk k_Z_mayBuy 2 rfl) rfl ?_
  refine V_iald (pc := 5) C (dk k_Z_mayBuy 3 rfl) kq_136 (by decide) (by omega) (by omega) ?_
  refine V_iconst (pc := 6) C (dk k_Z_mayBuy 4 rfl) rfl ?_
  refine V_icmpne (pc := 7) C (dk k_Z_mayBuy 5 rfl) 33 rfl (by first | exact hR _ _ | with_reducible assumption | exact ⟨by omega, by omega⟩) (by first | exact hR _ _ | with_reducible assumption | exact ⟨by omega, by omega⟩) (fun h1 => ?_) (fun h1 => ?_)
  · skip
    refine V_iconst (pc := 33) C (dk k_Z_mayBuy 19 rfl) rfl ?_
    refine V_zret (pc := 34) C (by first | exact Or.inl rfl | exact Or.inr rfl | (split <;> first | exact Or.inl rfl | exact Or.inr rfl) | omega) E (dk k_Z_mayBuy 20 rfl) ?_
    refine ⟨?_, rfl⟩
    first | rw [if_pos ⟨by omega, by omega⟩] | rw [if_neg (fun q => by omega)]
  · skip
    refine V_aload_n (pc := 10) C (dk k_Z_mayBuy 6 rfl) rfl ?_
    refine V_iload_n (pc := 11) C (dk k_Z_mayBuy 7 rfl) rfl ?_
    refine V_callV (pc := 12) C (dk k_Z_mayBuy 8 rfl) lk_Z_183 cm_Z_price vm_Z_price (c_Z_price _ _ _ π x j t hπ0 ok hx0 xk hj ht0 ht1) kq_128 rfl rfl rfl (Nat.le_of_ble_eq_true rfl) (Rm.mono hRm (by decide) (by decide)) ?_
    refine V_aload_n (pc := 15) C (dk k_Z_mayBuy 9 rfl) rfl ?_
    refine V_getr (pc := 16) (o2 := 133) C (dk k_Z_mayBuy 10 rfl) fl_Z_22 kq_128 (by decide) rfl (by decide) rfl ?_
    refine V_aload_n (pc := 19) C (dk k_Z_mayBuy 11 rfl) rfl ?_
    refine V_getr (pc := 20) (o2 := 130) C (dk k_Z_mayBuy 12 rfl) fl_Z_13 kq_128 (by decide) rfl (by decide) rfl ?_
    refine V_iload_n (pc := 23) C (dk k_Z_mayBuy 13 rfl) rfl ?_
    refine V_iald (pc := 24) C (dk k_Z_mayBuy 14 rfl) kq_130 (by decide) (by omega) (by omega) ?_
    rw [tO]
    refine V_iald (pc := 25) C (dk k_Z_mayBuy 15 rfl) kq_133 (by decide) (by omega) (by omega) ?_
    rw [fG]
    refine V_icmpgt (pc := 26) C (dk k_Z_mayBuy 16 rfl) 33 rfl (by first | exact hR _ _ | with_reducible assumption | exact ⟨by omega, by omega⟩) (by first | exact hR _ _ | with_reducible assumption | exact ⟨by omega, by omega⟩) (fun h2 => ?_) (fun h2 => ?_)
    · skip
      refine V_iconst (pc := 33) C (dk k_Z_mayBuy 19 rfl) rfl ?_
      refine V_zret (pc := 34) C (by first | exact Or.inl rfl | exact Or.inr rfl | (split <;> first | exact Or.inl rfl | exact Or.inr rfl) | omega) E (dk k_Z_mayBuy 20 rfl) ?_
      refine ⟨?_, rfl⟩
      first | rw [if_pos ⟨by omega, by omega⟩] | rw [if_neg (fun q => by omega)]
    · skip
      refine V_iconst (pc := 29) C (dk k_Z_mayBuy 17 rfl) rfl ?_
      refine V_goto (pc := 30) C (dk k_Z_mayBuy 18 rfl) 34 rfl ?_
      refine V_zret (pc := 34) C (by first | exact Or.inl rfl | exact Or.inr rfl | (split <;> first | exact Or.inl rfl | exact Or.inr rfl) | omega) E (dk k_Z_mayBuy 20 rfl) ?_
      refine ⟨?_, rfl⟩
      first | rw [if_pos ⟨by omega, by omega⟩] | rw [if_neg (fun q => by omega)]

def i_Z_sells : List (Nat × (Instr × Nat)) := [(0, (.aload_n 0, 1)), (1, (.iload_n 1, 1)), (2, (.invokevirtual 183, 3)), (5, (.istore_n 2, 1)), (6, (.aload_n 0, 1)), (7, (.getfield 31, 3)), (10, (.iload_n 1, 1)), (11, (.iconst 1, 1)), (12, (.iastore, 1)), (13, (.aload_n 0, 1)), (14, (.dup, 1)), (15, (.getfield 87, 3)), (18, (.iload_n 2, 1)), (19, (.isub, 1)), (20, (.putfield 87, 3)), (23, (.aload_n 0, 1)), (24, (.getfield 22, 3)), (27, (.aload_n 0, 1)), (28, (.getfield 13, 3)), (31, (.iload_n 1, 1)), (32, (.iaload, 1)), (33, (.dup2, 1)), (34, (.iaload, 1)), (35, (.iload_n 2, 1)), (36, (.iadd, 1)), (37, (.iastore, 1)), (38, (.return_, 1))]
theorem k_Z_sells : i_Z_sells.all (fun q => decide (decode b_Z_sells q.1 = .ok q.2)) = true := by decide +kernel

set_option maxHeartbeats 1000000 in
set_option maxRecDepth 20000 in
theorem c_Z_sells (l : Launch) (G : GE) (σ : Wd) (π : PL) (x : ST) (j t : Int) (hπ : PlM σ π) (ok : PLok π) (hx : StM σ π x) (xk : STok π x j) (hj : j ≤ 200) (ht0 : 0 ≤ t) (ht1 : t < pN π) (hpr : prc π x t ≤ sM x) : Ct l G y_Z_sells b_Z_sells 3 (none) 2 42 [vR 128, vI t] σ (Rt none (fun σ' => StM σ' π (sellX π x t) ∧ FrZ σ σ')) := by
  refine Ct.of cm_Z_sells (Nat.le_of_ble_eq_true rfl) ?_
  intro X hXl hXG hXN hRm C E
  subst hXl; subst hXG
  show V X 0 [some (vR 128), some (vI t), none] [] σ
  refine V_R (fun hR => ?_)
  have hπ0 := hπ
  obtain ⟨e0, e1, e2, e3, eT, eX⟩ := hπ
  have ⟨k1, k2, k3, k4, k5, k6, kT, kX⟩ := ok
  have hx0 := hx
  obtain ⟨f0, f1, fQ, fT⟩ := hx
  have ⟨x1, x2, x3, x4, xQ, xT⟩ := xk
  obtain ⟨fN, fP⟩ := fT t ht0 ht1
  obtain ⟨tO, tK, tU⟩ := eT t ht0 ht1
  obtain ⟨kO0, kO1, kK0, kK1, kU0, kU1⟩ := kT t ht0 ht1
  obtain ⟨xN0, xN1, xP0, xP1, xPN⟩ := xT t ht0 ht1
  have ⟨hpr0, hpr1⟩ := prc_b ok xk ht0 ht1
  obtain ⟨fG, fR⟩ := fQ _ kO0 kO1
  obtain ⟨g1, g2, g3, g4⟩ := xQ _ kO0 kO1
  refine V_aload_n (pc := 0) C (dk k_Z_sells 0 rfl) rfl ?_
  refine V_iload_n (pc := 1) C (dk k_Z_sells 1 rfl) rfl ?_
  refine V_callV (pc := 2) C (dk k_Z_sells 2 rfl) lk_Z_183 cm_Z_price vm_Z_price (c_Z_price _ _ _ π x j t hπ0 ok hx0 xk hj ht0 ht1) kq_128 rfl rfl rfl (Nat.le_of_ble_eq_true rfl) (Rm.mono hRm (by decide) (by decide)) ?_
  refine V_istore_n (pc := 5) C (dk k_Z_sells 3 rfl) (by rw [hXN]; decide) ?_
  dsimp only [lst, lstL, lz, kill, Fin.val, Nat.reduceAdd]
  refine V_aload_n (pc := 6) C (dk k_Z_sells 4 rfl) rfl ?_
  refine V_getr (pc := 7) (o2 := 136) C (dk k_Z_sells 5 rfl) fl_Z_31 kq_128 (by decide) rfl (by decide) rfl ?_
  refine V_iload_n (pc := 10) C (dk k_Z_sells 6 rfl) rfl ?_
  refine V_iconst (pc := 11) C (dk k_Z_sells 7 rfl) rfl ?_
  refine V_iast (pc := 12) C (dk k_Z_sells 8 rfl) kq_136 (by decide) ht0 (by omega) ⟨by decide, by decide⟩ ?_
  refine V_R (fun hR => ?_)
  refine V_aload_n (pc := 13) C (dk k_Z_sells 9 rfl) rfl ?_
  refine V_dupR (pc := 14) C (dk k_Z_sells 10 rfl) ?_
  refine V_geti (pc := 15) (ji := 9) C (dk k_Z_sells 11 rfl) fl_Z_87 kq_128 (by decide) rfl rfl ?_
  rw [show up σ 136 t 1 128 9 = sM x from (up_ne1 _ _ _ _ (by decide)).trans f1]
  refine V_iload_n (pc := 18) C (dk k_Z_sells 12 rfl) rfl ?_
  refine V_isub (pc := 19) C (dk k_Z_sells 13 rfl) ?_
  refine V_puti (pc := 20) (ji := 9) C (dk k_Z_sells 14 rfl) fl_Z_87 fw_9_9 kq_128 (by decide) rfl rfl ⟨by omega, by omega⟩ ?_
  refine V_R (fun hR => ?_)
  refine V_aload_n (pc := 23) C (dk k_Z_sells 15 rfl) rfl ?_
  refine V_getr (pc := 24) (o2 := 133) C (dk k_Z_sells 16 rfl) fl_Z_22 kq_128 (by decide) rfl (by decide) rfl ?_
  refine V_aload_n (pc := 27) C (dk k_Z_sells 17 rfl) rfl ?_
  refine V_getr (pc := 28) (o2 := 130) C (dk k_Z_sells 18 rfl) fl_Z_13 kq_128 (by decide) rfl (by decide) rfl ?_
  refine V_iload_n (pc := 31) C (dk k_Z_sells 19 rfl) rfl ?_
  refine V_iald (pc := 32) C (dk k_Z_sells 20 rfl) kq_130 (by decide) (by omega) (by omega) ?_
  rw [show up (up σ 136 t 1) 128 9 (sM x - prc π x t) 130 t = pO π t from (up_ne1 _ _ _ _ (by decide)).trans ((up_ne1 _ _ _ _ (by decide)).trans tO)]
  refine V_dup2IR (pc := 33) C (dk k_Z_sells 21 rfl) ?_
  refine V_iald (pc := 34) C (dk k_Z_sells 22 rfl) kq_133 (by decide) kO0 (by omega) ?_
  rw [show up (up σ 136 t 1) 128 9 (sM x - prc π x t) 133 (pO π t) = sG x (pO π t) from (up_ne1 _ _ _ _ (by decide)).trans ((up_ne1 _ _ _ _ (by decide)).trans fG)]
  refine V_iload_n (pc := 35) C (dk k_Z_sells 23 rfl) rfl ?_
  refine V_iadd (pc := 36) C (dk k_Z_sells 24 rfl) ?_
  refine V_iast (pc := 37) C (dk k_Z_sells 25 rfl) kq_133 (by decide) kO0 (by omega) ⟨by omega, by omega⟩ ?_
  refine V_R (fun hR => ?_)
  refine V_vret (pc := 38) C E (dk k_Z_sells 26 rfl) ?_
  exact ⟨rfl, ((hx0.upP t _).upM _).upG _ _, (((FrZ.rf σ).up 136 _ _ (by omega)).up 128 _ _ (by omega)).up 133 _ _ (by omega)⟩

def i_Z_buys : List (Nat × (Instr × Nat)) := [(0, (.aload_n 0, 1)), (1, (.iload_n 1, 1)), (2, (.invokevirtual 183, 3)), (5, (.istore_n 2, 1)), (6, (.aload_n 0, 1)), (7, (.getfield 31, 3)), (10, (.iload_n 1, 1)), (11, (.iconst 0, 1)), (12, (.iastore, 1)), (13, (.aload_n 0, 1)), (14, (.dup, 1)), (15, (.getfield 87, 3)), (18, (.iload_n 2, 1)), (19, (.iadd, 1)), (20, (.putfield 87, 3)), (23, (.aload_n 0, 1)), (24, (.getfield 22, 3)), (27, (.aload_n 0, 1)), (28, (.getfield 13, 3)), (31, (.iload_n 1, 1)), (32, (.iaload, 1)), (33, (.dup2, 1)), (34, (.iaload, 1)), (35, (.iload_n 2, 1)), (36, (.isub, 1)), (37, (.iastore, 1)), (38, (.return_, 1))]
theorem k_Z_buys : i_Z_buys.all (fun q => decide (decode b_Z_buys q.1 = .ok q.2)) = true := by decide +kernel

set_option maxHeartbeats 1000000 in
set_option maxRecDepth 20000 in
theorem c_Z_buys (l : Launch) (G : GE) (σ : Wd) (π : PL) (x : ST) (j t : Int) (hπ : PlM σ π) (ok : PLok π) (hx : StM σ π x) (xk : STok π x j) (hj : j ≤ 200) (ht0 : 0 ≤ t) (ht1 : t < pN π) (hpr : prc π x t ≤ sG x (pO π t)) : Ct l G y_Z_buys b_Z_buys 3 (none) 2 42 [vR 128, vI t] σ (Rt none (fun σ' => StM σ' π (buyX π x t) ∧ FrZ σ σ')) := by
  refine Ct.of cm_Z_buys (Nat.le_of_ble_eq_true rfl) ?_
  intro X hXl hXG hXN hRm C E
  subst hXl; subst hXG
  show V X 0 [some (vR 128), some (vI t), none] [] σ
  refine V_R (fun hR => ?_)
  have hπ0 := hπ
  obtain ⟨e0, e1, e2, e3, eT, eX⟩ := hπ
  have ⟨k1, k2, k3, k4, k5, k6, kT, kX⟩ := ok
  have hx0 := hx
  obtain ⟨f0, f1, fQ, fT⟩ := hx
  have ⟨x1, x2, x3, x4, xQ, xT⟩ := xk
  obtain ⟨fN, fP⟩ := fT t ht0 ht1
  obtain ⟨tO, tK, tU⟩ := eT t ht0 ht1
  obtain ⟨kO0, kO1, kK0, kK1, kU0, kU1⟩ := kT t ht0 ht1
  obtain ⟨xN0, xN1, xP0, xP1, xPN⟩ := xT t ht0 ht1
  have ⟨hpr0, hpr1⟩ := prc_b ok xk ht0 ht1
  obtain ⟨fG, fR⟩ := fQ _ kO0 kO1
  obtain ⟨g1, g2, g3, g4⟩ := xQ _ kO0 kO1
  refine V_aload_n (pc := 0) C (dk k_Z_buys 0 rfl) rfl ?_
  refine V_iload_n (pc := 1) C (dk k_Z_buys 1 rfl) rfl ?_
  refine V_callV (pc := 2) C (dk k_Z_buys 2 rfl) lk_Z_183 cm_Z_price vm_Z_price (c_Z_price _ _ _ π x j t hπ0 ok hx0 xk hj ht0 ht1) kq_128 rfl rfl rfl (Nat.le_of_ble_eq_true rfl) (Rm.mono hRm (by decide) (by decide)) ?_
  refine V_istore_n (pc := 5) C (dk k_Z_buys 3 rfl) (by rw [hXN]; decide) ?_
  dsimp only [lst, lstL, lz, kill, Fin.val, Nat.reduceAdd]
  refine V_aload_n (pc := 6) C (dk k_Z_buys 4 rfl) rfl ?_
  refine V_getr (pc := 7) (o2 := 136) C (dk k_Z_buys 5 rfl) fl_Z_31 kq_128 (by decide) rfl (by decide) rfl ?_
  refine V_iload_n (pc := 10) C (dk k_Z_buys 6 rfl) rfl ?_
  refine V_iconst (pc := 11) C (dk k_Z_buys 7 rfl) rfl ?_
  refine V_iast (pc := 12) C (dk k_Z_buys 8 rfl) kq_136 (by decide) ht0 (by omega) ⟨by decide, by decide⟩ ?_
  refine V_R (fun hR => ?_)
  refine V_aload_n (pc := 13) C (dk k_Z_buys 9 rfl) rfl ?_
  refine V_dupR (pc := 14) C (dk k_Z_buys 10 rfl) ?_
  refine V_geti (pc := 15) (ji := 9) C (dk k_Z_buys 11 rfl) fl_Z_87 kq_128 (by decide) rfl rfl ?_
  rw [show up σ 136 t 0 128 9 = sM x from (up_ne1 _ _ _ _ (by decide)).trans f1]
  refine V_iload_n (pc := 18) C (dk k_Z_buys 12 rfl) rfl ?_
  refine V_iadd (pc := 19) C (dk k_Z_buys 13 rfl) ?_
  refine V_puti (pc := 20) (ji := 9) C (dk k_Z_buys 14 rfl) fl_Z_87 fw_9_9 kq_128 (by decide) rfl rfl ⟨by omega, by omega⟩ ?_
  refine V_R (fun hR => ?_)
  refine V_aload_n (pc := 23) C (dk k_Z_buys 15 rfl) rfl ?_
  refine V_getr (pc := 24) (o2 := 133) C (dk k_Z_buys 16 rfl) fl_Z_22 kq_128 (by decide) rfl (by decide) rfl ?_
  refine V_aload_n (pc := 27) C (dk k_Z_buys 17 rfl) rfl ?_
  refine V_getr (pc := 28) (o2 := 130) C (dk k_Z_buys 18 rfl) fl_Z_13 kq_128 (by decide) rfl (by decide) rfl ?_
  refine V_iload_n (pc := 31) C (dk k_Z_buys 19 rfl) rfl ?_
  refine V_iald (pc := 32) C (dk k_Z_buys 20 rfl) kq_130 (by decide) (by omega) (by omega) ?_
  rw [show up (up σ 136 t 0) 128 9 (sM x + prc π x t) 130 t = pO π t from (up_ne1 _ _ _ _ (by decide)).trans ((up_ne1 _ _ _ _ (by decide)).trans tO)]
  refine V_dup2IR (pc := 33) C (dk k_Z_buys 21 rfl) ?_
  refine V_iald (pc := 34) C (dk k_Z_buys 22 rfl) kq_133 (by decide) kO0 (by omega) ?_
  rw [show up (up σ 136 t 0) 128 9 (sM x + prc π x t) 133 (pO π t) = sG x (pO π t) from (up_ne1 _ _ _ _ (by decide)).trans ((up_ne1 _ _ _ _ (by decide)).trans fG)]
  refine V_iload_n (pc := 35) C (dk k_Z_buys 23 rfl) rfl ?_
  refine V_isub (pc := 36) C (dk k_Z_buys 24 rfl) ?_
  refine V_iast (pc := 37) C (dk k_Z_buys 25 rfl) kq_133 (by decide) kO0 (by omega) ⟨by omega, by omega⟩ ?_
  refine V_R (fun hR => ?_)
  refine V_vret (pc := 38) C E (dk k_Z_buys 26 rfl) ?_
  exact ⟨rfl, ((hx0.upP t _).upM _).upG _ _, (((FrZ.rf σ).up 136 _ _ (by omega)).up 128 _ _ (by omega)).up 133 _ _ (by omega)⟩
