/-- what the model can undo, the latest first -/
def UsM (σ : Wd) (π : PL) (us : List ST) : Prop := σ 128 31 = us.length ∧ us.length ≤ 8 ∧ ∀ (k : Nat) (y : ST), us[k]? = some y → BkR σ 144 (28 * ((us.length : Int) - 1 - k)) π y
/-- what the model has put away, the latest first -/
def KsM (σ : Wd) (π : PL) (ks : List ST) : Prop := σ 128 38 = ks.length ∧ ks.length ≤ 2 ∧ ∀ (k : Nat) (y : ST), ks[k]? = some y → BkR σ 149 (28 * ((ks.length : Int) - 1 - k)) π y
def LkM (σ : Wd) (l : List (Int × (Int × Int))) : Prop := σ 128 14 = l.length ∧ l.length ≤ 6 ∧ ∀ (k : Nat) (q : Int × (Int × Int)), l[k]? = some q → σ 137 k = q.1 ∧ σ 138 k = q.2.1 ∧ σ 139 k = q.2.2 ∧ 0 ≤ q.2.1 ∧ q.2.1 ≤ 20 ∧ 0 ≤ q.2.2 ∧ q.2.2 ≤ 99
def TxM (σ : Wd) (tx : List Int) : Prop := σ 128 19 = tx.length ∧ tx.length ≤ 200 ∧ ∀ (k : Nat) (c : Int), tx[k]? = some c → σ 140 k = c ∧ 32 ≤ c ∧ c ≤ 126
/-- the model's shop stands for the same -/
def MR (σ : Wd) (π : PL) (x : ST) (us ks : List ST) (lk : List (Int × (Int × Int))) (tx : List Int) : Prop := PlM σ π ∧ StM σ π x ∧ UsM σ π us ∧ KsM σ π ks ∧ LkM σ lk ∧ TxM σ tx
/-- the class's rows are as they were -/
def Fm (σ σ' : Wd) : Prop := ∀ k, k < 128 → σ' k = σ k
theorem Fm.rf (σ : Wd) : Fm σ σ := fun _ _ => rfl
theorem Fm.of {σ σ' : Wd} (h : ∀ (k : Nat) (i : Int), k < 128 → σ' k i = σ k i) : Fm σ σ' := fun k a => funext (fun i => h k i a)
/-- the stand and what is worked in alone are written -/
def FrX (σ σ' : Wd) : Prop := ∀ (k : Nat) (i : Int), ¬ (133 ≤ k ∧ k ≤ 136) → ¬ (k = 128 ∧ (i = 8 ∨ i = 9 ∨ (20 ≤ i ∧ i < 30) ∨ i = 33)) → ¬ (141 ≤ k ∧ k ≤ 143) → ¬ (145 ≤ k ∧ k ≤ 148) → σ' k i = σ k i
theorem FrX.rf (σ : Wd) : FrX σ σ := fun _ _ _ _ _ _ => rfl
theorem FrX.tr {σ τ ρ : Wd} (h : FrX σ τ) (h2 : FrX τ ρ) : FrX σ ρ := fun k i a b c d => (h2 k i a b c d).trans (h k i a b c d)
theorem FrZ.x {σ σ' : Wd} (h : FrZ σ σ') : FrX σ σ' := fun k i a b c d => h k i a (by omega)
theorem FrB.x {σ σ' : Wd} (h : FrB 145 0 σ σ') : FrX σ σ' := fun k i a b c d => h k i (by omega)
theorem FrX.m {σ σ' : Wd} (h : FrX σ σ') : Fm σ σ' := Fm.of (fun k i a => h k i (by omega) (by omega) (by omega) (by omega))
theorem PlM.fx {σ σ' : Wd} {π : PL} (h : PlM σ π) (hf : ∀ (k : Nat) (i : Int), (k = 128 ∧ (i = 0 ∨ i = 1 ∨ i = 2 ∨ i = 3)) ∨ (129 ≤ k ∧ k ≤ 132) → σ' k i = σ k i) : PlM σ' π := by
  obtain ⟨h1, h2, h3, h4, h5, h6⟩ := h
  refine ⟨(hf 128 0 (by omega)).trans h1, (hf 128 1 (by omega)).trans h2, (hf 128 2 (by omega)).trans h3, (hf 128 3 (by omega)).trans h4, fun t a b => ?_, fun r a b => ?_⟩
  · rw [hf 130 t (by omega), hf 131 t (by omega), hf 132 t (by omega)]; exact h5 t a b
  · rw [hf 129 r (by omega)]; exact h6 r a b
theorem StM.fx {σ σ' : Wd} {π : PL} {x : ST} (h : StM σ π x) (hf : ∀ (k : Nat) (i : Int), (k = 128 ∧ (i = 8 ∨ i = 9)) ∨ (133 ≤ k ∧ k ≤ 136) → σ' k i = σ k i) : StM σ' π x :=
  h.fr (hf 128 8 (by omega)) (hf 128 9 (by omega)) (fun k a b => funext (fun i => hf k i (by omega)))
theorem UsM.fx {σ σ' : Wd} {π : PL} {us : List ST} (ok : PLok π) (h : UsM σ π us) (hf : ∀ (k : Nat) (i : Int), (k = 128 ∧ i = 31) ∨ k = 144 → σ' k i = σ k i) : UsM σ' π us := by
  obtain ⟨h1, h2, h3⟩ := h
  exact ⟨(hf 128 31 (by omega)).trans h1, h2, fun k y hk => (h3 k y hk).fr ok (fun i _ _ => hf 144 _ (by omega))⟩
theorem KsM.fx {σ σ' : Wd} {π : PL} {us : List ST} (ok : PLok π) (h : KsM σ π us) (hf : ∀ (k : Nat) (i : Int), (k = 128 ∧ i = 38) ∨ k = 149 → σ' k i = σ k i) : KsM σ' π us := by
  obtain ⟨h1, h2, h3⟩ := h
  exact ⟨(hf 128 38 (by omega)).trans h1, h2, fun k y hk => (h3 k y hk).fr ok (fun i _ _ => hf 149 _ (by omega))⟩
theorem LkM.fx {σ σ' : Wd} {l : List (Int × (Int × Int))} (h : LkM σ l) (hf : ∀ (k : Nat) (i : Int), (k = 128 ∧ i = 14) ∨ (137 ≤ k ∧ k ≤ 139) → σ' k i = σ k i) : LkM σ' l := by
  obtain ⟨h1, h2, h3⟩ := h
  refine ⟨(hf 128 14 (by omega)).trans h1, h2, fun k q hk => ?_⟩
  rw [hf 137 k (by omega), hf 138 k (by omega), hf 139 k (by omega)]
  exact h3 k q hk
theorem TxM.fx {σ σ' : Wd} {l : List Int} (h : TxM σ l) (hf : ∀ (k : Nat) (i : Int), (k = 128 ∧ i = 19) ∨ k = 140 → σ' k i = σ k i) : TxM σ' l := by
  obtain ⟨h1, h2, h3⟩ := h
  refine ⟨(hf 128 19 (by omega)).trans h1, h2, fun k q hk => ?_⟩
  rw [hf 140 k (by omega)]
  exact h3 k q hk
theorem MR.st {σ σ' : Wd} {π : PL} {x x' : ST} {us ks : List ST} {lk : List (Int × (Int × Int))} {tx : List Int} (ok : PLok π) (h : MR σ π x us ks lk tx) (hf : FrX σ σ') (hx : StM σ' π x') : MR σ' π x' us ks lk tx := by
  obtain ⟨h1, h2, h3, h4, h5, h6⟩ := h
  exact ⟨h1.fx (fun k i a => hf k i (by omega) (by omega) (by omega) (by omega)), hx, h3.fx ok (fun k i a => hf k i (by omega) (by omega) (by omega) (by omega)), h4.fx ok (fun k i a => hf k i (by omega) (by omega) (by omega) (by omega)), h5.fx (fun k i a => hf k i (by omega) (by omega) (by omega) (by omega)), h6.fx (fun k i a => hf k i (by omega) (by omega) (by omega) (by omega))⟩
theorem UsM.push {ρ τ : Wd} {π : PL} {x : ST} {vs : List ST} (ok : PLok π) (hv : UsM ρ π vs) (hl : vs.length < 8) (hb : BkR τ 144 (28 * (vs.length : Int)) π x) (hf : FrB 144 (28 * (vs.length : Int)) ρ τ) : UsM (up τ 128 31 ((vs.length : Int) + 1)) π (x :: vs) := by
  obtain ⟨h1, h2, h3⟩ := hv
  refine ⟨by rw [up_at, List.length_cons]; rfl, by rw [List.length_cons]; omega, fun k y hk => ?_⟩
  rw [List.length_cons]
  rcases k with _ | k
  · simp at hk
    subst hk
    refine hb.fr ok (fun i a b => ?_)
    rw [up_ne1 _ _ _ _ (by decide), show 28 * (((vs.length + 1 : Nat) : Int) - 1 - ((0 : Nat) : Int)) + i = 28 * (vs.length : Int) + i by omega]
  · have hk2 : vs[k]? = some y := by simpa using hk
    have hkl : k < vs.length := (List.getElem?_eq_some_iff.mp hk2).1
    refine (h3 k y hk2).fr ok (fun i a b => ?_)
    rw [up_ne1 _ _ _ _ (by decide), show 28 * (((vs.length + 1 : Nat) : Int) - 1 - ((k + 1 : Nat) : Int)) + i = 28 * ((vs.length : Int) - 1 - (k : Int)) + i by omega]
    exact hf 144 _ (by omega)
theorem UsM.pop {σ : Wd} {π : PL} {y : ST} {us : List ST} (ok : PLok π) (h : UsM σ π (y :: us)) : UsM (up σ 128 31 (us.length : Int)) π us ∧ BkR σ 144 (28 * (us.length : Int)) π y := by
  obtain ⟨h1, h2, h3⟩ := h
  rw [List.length_cons] at h2
  refine ⟨⟨up_at _ _ _ _, by omega, fun k z hk => ?_⟩, ?_⟩
  · refine (h3 (k + 1) z (by simpa using hk)).fr ok (fun i a b => ?_)
    rw [up_ne1 _ _ _ _ (by decide), List.length_cons, show 28 * (((us.length + 1 : Nat) : Int) - 1 - ((k + 1 : Nat) : Int)) + i = 28 * ((us.length : Int) - 1 - (k : Int)) + i by omega]
  · refine (h3 0 y rfl).fr ok (fun i a b => ?_)
    rw [List.length_cons, show 28 * (((us.length + 1 : Nat) : Int) - 1 - ((0 : Nat) : Int)) + i = 28 * (us.length : Int) + i by omega]
theorem KsM.push {ρ τ : Wd} {π : PL} {x : ST} {vs : List ST} (ok : PLok π) (hv : KsM ρ π vs) (hl : vs.length < 2) (hb : BkR τ 149 (28 * (vs.length : Int)) π x) (hf : FrB 149 (28 * (vs.length : Int)) ρ τ) : KsM (up τ 128 38 ((vs.length : Int) + 1)) π (x :: vs) := by
  obtain ⟨h1, h2, h3⟩ := hv
  refine ⟨by rw [up_at, List.length_cons]; rfl, by rw [List.length_cons]; omega, fun k y hk => ?_⟩
  rw [List.length_cons]
  rcases k with _ | k
  · simp at hk
    subst hk
    refine hb.fr ok (fun i a b => ?_)
    rw [up_ne1 _ _ _ _ (by decide), show 28 * (((vs.length + 1 : Nat) : Int) - 1 - ((0 : Nat) : Int)) + i = 28 * (vs.length : Int) + i by omega]
  · have hk2 : vs[k]? = some y := by simpa using hk
    have hkl : k < vs.length := (List.getElem?_eq_some_iff.mp hk2).1
    refine (h3 k y hk2).fr ok (fun i a b => ?_)
    rw [up_ne1 _ _ _ _ (by decide), show 28 * (((vs.length + 1 : Nat) : Int) - 1 - ((k + 1 : Nat) : Int)) + i = 28 * ((vs.length : Int) - 1 - (k : Int)) + i by omega]
    exact hf 149 _ (by omega)
theorem KsM.pop {σ : Wd} {π : PL} {y : ST} {us : List ST} (ok : PLok π) (h : KsM σ π (y :: us)) : KsM (up σ 128 38 (us.length : Int)) π us ∧ BkR σ 149 (28 * (us.length : Int)) π y := by
  obtain ⟨h1, h2, h3⟩ := h
  rw [List.length_cons] at h2
  refine ⟨⟨up_at _ _ _ _, by omega, fun k z hk => ?_⟩, ?_⟩
  · refine (h3 (k + 1) z (by simpa using hk)).fr ok (fun i a b => ?_)
    rw [up_ne1 _ _ _ _ (by decide), List.length_cons, show 28 * (((us.length + 1 : Nat) : Int) - 1 - ((k + 1 : Nat) : Int)) + i = 28 * ((us.length : Int) - 1 - (k : Int)) + i by omega]
  · refine (h3 0 y rfl).fr ok (fun i a b => ?_)
    rw [List.length_cons, show 28 * (((us.length + 1 : Nat) : Int) - 1 - ((0 : Nat) : Int)) + i = 28 * (us.length : Int) + i by omega]
/-- of the model, what can be undone alone is written -/
def FrU (σ σ' : Wd) : Prop := ∀ (k : Nat) (i : Int), k ≠ 144 → ¬ (k = 128 ∧ i = 31) → σ' k i = σ k i
theorem nt_a {σ : Wd} {π : PL} {us : List ST} (x : ST) (h : UsM σ π us) (h8 : us.length < 8) : ∃ ρ : Wd, σ = ρ ∧ ∃ vs : List ST, UsM ρ π vs ∧ vs.length < 8 ∧ (x :: us).take 8 = x :: vs ∧ FrU σ ρ :=
  ⟨σ, rfl, us, h, h8, by rw [List.take_of_length_le (by rw [List.length_cons]; omega)], fun _ _ _ _ => rfl⟩
theorem nt_b {σ τ : Wd} {π : PL} {us : List ST} (x : ST) (ok : PLok π) (h : UsM σ π us) (h8 : us.length = 8) (h1 : ∀ u : Int, 0 ≤ u → u < 196 → τ 144 u = σ 144 (u + 28)) (h2 : ∀ (k : Nat) (i : Int), k ≠ 144 → τ k i = σ k i) (v : Int) (hv : v = 7) : ∃ ρ : Wd, up τ 128 31 v = ρ ∧ ∃ vs : List ST, UsM ρ π vs ∧ vs.length < 8 ∧ (x :: us).take 8 = x :: vs ∧ FrU σ ρ := by
  obtain ⟨g1, g2, g3⟩ := h
  have hl : (us.take 7).length = 7 := by rw [List.length_take]; omega
  refine ⟨_, rfl, us.take 7, ⟨by rw [up_at, hl, hv]; rfl, by omega, fun k y hk => ?_⟩, by omega, rfl, fun k i a b => ?_⟩
  · have hkl : k < 7 := by
      have := (List.getElem?_eq_some_iff.mp hk).1
      omega
    rw [List.getElem?_take, if_pos hkl] at hk
    refine (g3 k y hk).fr ok (fun i a b => ?_)
    rw [up_ne1 _ _ _ _ (by decide), hl, h8, h1 _ (by omega) (by omega), show 28 * (((7 : Nat) : Int) - 1 - (k : Int)) + i + 28 = 28 * (((8 : Nat) : Int) - 1 - (k : Int)) + i by omega]
  · rw [up_off τ v (fun q => b q)]
    exact h2 k i a

def i_Z_notes : List (Nat × (Instr × Nat)) := [(0, (.aload_n 0, 1)), (1, (.getfield 156, 3)), (4, (.bipush 8, 2)), (6, (.if_icmp .ne 43, 3)), (9, (.iconst 0, 1)), (10, (.istore_n 1, 1)), (11, (.iload_n 1, 1)), (12, (.sipush 196, 3)), (15, (.if_icmp .ge 24, 3)), (18, (.aload_n 0, 1)), (19, (.getfield 55, 3)), (22, (.iload_n 1, 1)), (23, (.aload_n 0, 1)), (24, (.getfield 55, 3)), (27, (.iload_n 1, 1)), (28, (.bipush 28, 2)), (30, (.iadd, 1)), (31, (.iaload, 1)), (32, (.iastore, 1)), (33, (.iinc 1 1, 3)), (36, (.goto (-25), 3)), (39, (.aload_n 0, 1)), (40, (.dup, 1)), (41, (.getfield 156, 3)), (44, (.iconst 1, 1)), (45, (.isub, 1)), (46, (.putfield 156, 3)), (49, (.aload_n 0, 1)), (50, (.aload_n 0, 1)), (51, (.getfield 55, 3)), (54, (.bipush 28, 2)), (56, (.aload_n 0, 1)), (57, (.getfield 156, 3)), (60, (.imul, 1)), (61, (.invokevirtual 186, 3)), (64, (.aload_n 0, 1)), (65, (.dup, 1)), (66, (.getfield 156, 3)), (69, (.iconst 1, 1)), (70, (.iadd, 1)), (71, (.putfield 156, 3)), (74, (.return_, 1))]
theorem k_Z_notes : i_Z_notes.all (fun q => decide (decode b_Z_notes q.1 = .ok q.2)) = true := by decide +kernel

set_option maxHeartbeats 1000000 in
set_option maxRecDepth 20000 in
theorem c_Z_notes (l : Launch) (G : GE) (σ : Wd) (π : PL) (x : ST) (us : List ST) (ok : PLok π) (hx : StM σ π x) (hU : UsM σ π us) : Ct l G y_Z_notes b_Z_notes 2 (none) 1 23 [vR 128] σ (Rt none (fun σ' => UsM σ' π ((x :: us).take 8) ∧ FrU σ σ')) := by
  refine Ct.of cm_Z_notes (Nat.le_of_ble_eq_true rfl) ?_
  intro X hXl hXG hXN hRm C E
  subst hXl; subst hXG
  show V X 0 [some (vR 128), none] [] σ
  refine V_R (fun hR => ?_)
  obtain ⟨u1, u2, u3⟩ := id hU
  refine V_aload_n (pc := 0) C (dk k_Z_notes 0 rfl) rfl ?_
  refine V_geti (pc := 1) (ji := 31) C (dk k_Z_notes 1 rfl) fl_Z_156 kq_128 (by decide) rfl rfl ?_
  refine V_bipush (pc := 4) (n' := 8) C (dk k_Z_notes 2 rfl) rfl ?_
  refine V_icmpne (pc := 6) C (dk k_Z_notes 3 rfl) 49 rfl (by first | exact hR _ _ | with_reducible assumption | exact ⟨by omega, by omega⟩) (by first | exact hR _ _ | with_reducible assumption | exact ⟨by omega, by omega⟩) (fun h1 => ?_) (fun h1 => ?_)
  · skip
    first | (obtain ⟨ρ, hw, vs, hv, hvl, hvt, hvf⟩ := nt_a x hU (show us.length < 8 by omega); rw [hw]) | (obtain ⟨ρ, hw, vs, hv, hvl, hvt, hvf⟩ := nt_b (τ := τ) x ok hU (show us.length = 8 by omega) (fun u a b => v1 u a (by omega)) v3 (τ 128 31 - 1) (by rw [v3 128 31 (by decide)]; omega); rw [hw])
    have hx2 : StM ρ π x := hx.fx (fun k i a => hvf k i (by omega) (by omega))
    refine V_aload_n (pc := 49) C (dk k_Z_notes 27 rfl) rfl ?_
    refine V_aload_n (pc := 50) C (dk k_Z_notes 28 rfl) rfl ?_
    refine V_getr (pc := 51) (o2 := 144) C (dk k_Z_notes 29 rfl) fl_Z_55 kq_128 (by decide) rfl (by decide) rfl ?_
    refine V_bipush (pc := 54) (n' := 28) C (dk k_Z_notes 30 rfl) rfl ?_
    refine V_aload_n (pc := 56) C (dk k_Z_notes 31 rfl) rfl ?_
    refine V_geti (pc := 57) (ji := 31) C (dk k_Z_notes 32 rfl) fl_Z_156 kq_128 (by decide) rfl rfl ?_
    refine V_imul (pc := 60) C (dk k_Z_notes 33 rfl) ?_
    rw [hv.1]
    refine V_callV0r (pc := 61) C (dk k_Z_notes 34 rfl) lk_Z_186 cm_Z_lays vm_Z_lays (c_Z_lays _ _ _ 144 224 (28 * (vs.length : Int)) kq_144 (by decide) (by omega) (by omega) (by decide)) kq_128 rfl rfl rfl (Nat.le_of_ble_eq_true rfl) (Rm.mono hRm (by decide) (by decide)) (fun τ1 hq1 => ?_)
    refine V_R (fun hR => ?_)
    refine V_aload_n (pc := 64) C (dk k_Z_notes 35 rfl) rfl ?_
    refine V_dupR (pc := 65) C (dk k_Z_notes 36 rfl) ?_
    refine V_geti (pc := 66) (ji := 31) C (dk k_Z_notes 37 rfl) fl_Z_156 kq_128 (by decide) rfl rfl ?_
    rw [show τ1 128 31 = (vs.length : Int) from (hq1.2 128 31 (by omega)).trans hv.1]
    refine V_iconst (pc := 69) C (dk k_Z_notes 38 rfl) rfl ?_
    refine V_iadd (pc := 70) C (dk k_Z_notes 39 rfl) ?_
    refine V_puti (pc := 71) (ji := 31) C (dk k_Z_notes 40 rfl) fl_Z_156 fw_9_31 kq_128 (by decide) rfl rfl ⟨by omega, by omega⟩ ?_
    refine V_R (fun hR => ?_)
    refine V_vret (pc := 74) C E (dk k_Z_notes 41 rfl) ?_
    refine ⟨rfl, ?_, fun k i a b => ?_⟩
    · rw [hvt]; exact hv.push ok hvl (BkR.of ok hx2 hq1.1) hq1.2
    · rw [up_off _ _ (fun q => b q), hq1.2 k i (Or.inl a)]; exact hvf k i a b
  · skip
    refine V_iconst (pc := 9) C (dk k_Z_notes 4 rfl) rfl ?_
    refine V_istore_n (pc := 10) C (dk k_Z_notes 5 rfl) (by rw [hXN]; decide) ?_
    dsimp only [lst, lstL, lz, kill, Fin.val, Nat.reduceAdd]
    refine V_eq (V_loop (fun q : Int × Wd => 0 ≤ q.1 ∧ q.1 ≤ 196 ∧ (∀ u : Int, 0 ≤ u → u < q.1 → q.2 144 u = σ 144 (u + 28)) ∧ (∀ u : Int, q.1 ≤ u → q.2 144 u = σ 144 u) ∧ (∀ (k : Nat) (i : Int), k ≠ 144 → q.2 k i = σ k i)) (fun q => [some (vR 128), some (vI q.1)]) (fun q => q.2) (fun q => (196 - q.1).toNat) (fun q hq ih => ?_) (0, σ) ⟨Int.le_refl _, (by decide : (0 : Int) ≤ 196), fun u a b => by dsimp only at b; omega, fun _ _ => rfl, fun _ _ _ => rfl⟩) rfl rfl rfl
    obtain ⟨i, τ⟩ := q
    obtain ⟨i0, i1, v1, v2, v3⟩ := hq
    dsimp only at i0 i1 v1 v2 v3 ih ⊢
    refine V_R (fun hR => ?_)
    refine V_iload_n (pc := 11) C (dk k_Z_notes 6 rfl) rfl ?_
    refine V_sipush (pc := 12) (n' := 196) C (dk k_Z_notes 7 rfl) rfl ?_
    refine V_icmpge (pc := 15) C (dk k_Z_notes 8 rfl) 39 rfl (by first | exact hR _ _ | with_reducible assumption | exact ⟨by omega, by omega⟩) (by first | exact hR _ _ | with_reducible assumption | exact ⟨by omega, by omega⟩) (fun h2 => ?_) (fun h2 => ?_)
    · skip
      refine V_aload_n (pc := 39) C (dk k_Z_notes 21 rfl) rfl ?_
      refine V_dupR (pc := 40) C (dk k_Z_notes 22 rfl) ?_
      refine V_geti (pc := 41) (ji := 31) C (dk k_Z_notes 23 rfl) fl_Z_156 kq_128 (by decide) rfl rfl ?_
      refine V_iconst (pc := 44) C (dk k_Z_notes 24 rfl) rfl ?_
      have t31 : τ 128 31 = 8 := by rw [v3 128 31 (by decide)]; omega
      refine V_isub (pc := 45) C (dk k_Z_notes 25 rfl) ?_
      refine V_puti (pc := 46) (ji := 31) C (dk k_Z_notes 26 rfl) fl_Z_156 fw_9_31 kq_128 (by decide) rfl rfl ⟨by omega, by omega⟩ ?_
      refine V_R (fun hR => ?_)
      first | (obtain ⟨ρ, hw, vs, hv, hvl, hvt, hvf⟩ := nt_a x hU (show us.length < 8 by omega); rw [hw]) | (obtain ⟨ρ, hw, vs, hv, hvl, hvt, hvf⟩ := nt_b (τ := τ) x ok hU (show us.length = 8 by omega) (fun u a b => v1 u a (by omega)) v3 (τ 128 31 - 1) (by rw [v3 128 31 (by decide)]; omega); rw [hw])
      have hx2 : StM ρ π x := hx.fx (fun k i a => hvf k i (by omega) (by omega))
      refine V_aload_n (pc := 49) C (dk k_Z_notes 27 rfl) rfl ?_
      refine V_aload_n (pc := 50) C (dk k_Z_notes 28 rfl) rfl ?_
      refine V_getr (pc := 51) (o2 := 144) C (dk k_Z_notes 29 rfl) fl_Z_55 kq_128 (by decide) rfl (by decide) rfl ?_
      refine V_bipush (pc := 54) (n' := 28) C (dk k_Z_notes 30 rfl) rfl ?_
      refine V_aload_n (pc := 56) C (dk k_Z_notes 31 rfl) rfl ?_
      refine V_geti (pc := 57) (ji := 31) C (dk k_Z_notes 32 rfl) fl_Z_156 kq_128 (by decide) rfl rfl ?_
      refine V_imul (pc := 60) C (dk k_Z_notes 33 rfl) ?_
      rw [hv.1]
      refine V_callV0r (pc := 61) C (dk k_Z_notes 34 rfl) lk_Z_186 cm_Z_lays vm_Z_lays (c_Z_lays _ _ _ 144 224 (28 * (vs.length : Int)) kq_144 (by decide) (by omega) (by omega) (by decide)) kq_128 rfl rfl rfl (Nat.le_of_ble_eq_true rfl) (Rm.mono hRm (by decide) (by decide)) (fun τ1 hq1 => ?_)
      refine V_R (fun hR => ?_)
      refine V_aload_n (pc := 64) C (dk k_Z_notes 35 rfl) rfl ?_
      refine V_dupR (pc := 65) C (dk k_Z_notes 36 rfl) ?_
      refine V_geti (pc := 66) (ji := 31) C (dk k_Z_notes 37 rfl) fl_Z_156 kq_128 (by decide) rfl rfl ?_
      rw [show τ1 128 31 = (vs.length : Int) from (hq1.2 128 31 (by omega)).trans hv.1]
      refine V_iconst (pc := 69) C (dk k_Z_notes 38 rfl) rfl ?_
      refine V_iadd (pc := 70) C (dk k_Z_notes 39 rfl) ?_
      refine V_puti (pc := 71) (ji := 31) C (dk k_Z_notes 40 rfl) fl_Z_156 fw_9_31 kq_128 (by decide) rfl rfl ⟨by omega, by omega⟩ ?_
      refine V_R (fun hR => ?_)
      refine V_vret (pc := 74) C E (dk k_Z_notes 41 rfl) ?_
      refine ⟨rfl, ?_, fun k i a b => ?_⟩
      · rw [hvt]; exact hv.push ok hvl (BkR.of ok hx2 hq1.1) hq1.2
      · rw [up_off _ _ (fun q => b q), hq1.2 k i (Or.inl a)]; exact hvf k i a b
    · skip
      refine V_aload_n (pc := 18) C (dk k_Z_notes 9 rfl) rfl ?_
      refine V_getr (pc := 19) (o2 := 144) C (dk k_Z_notes 10 rfl) fl_Z_55 kq_128 (by decide) rfl (by decide) rfl ?_
      refine V_iload_n (pc := 22) C (dk k_Z_notes 11 rfl) rfl ?_
      refine V_aload_n (pc := 23) C (dk k_Z_notes 12 rfl) rfl ?_
      refine V_getr (pc := 24) (o2 := 144) C (dk k_Z_notes 13 rfl) fl_Z_55 kq_128 (by decide) rfl (by decide) rfl ?_
      refine V_iload_n (pc := 27) C (dk k_Z_notes 14 rfl) rfl ?_
      refine V_bipush (pc := 28) (n' := 28) C (dk k_Z_notes 15 rfl) rfl ?_
      refine V_iadd (pc := 30) C (dk k_Z_notes 16 rfl) ?_
      refine V_iald (pc := 31) C (dk k_Z_notes 17 rfl) kq_144 (by decide) (by omega) (by omega) ?_
      refine V_iast (pc := 32) C (dk k_Z_notes 18 rfl) kq_144 (by decide) i0 (by omega) (hR _ _) ?_
      refine V_R (fun hR => ?_)
      refine V_iinc (pc := 33) C (dk k_Z_notes 19 rfl) (by rw [hXN]; decide) rfl ?_
      dsimp only [lst, lstL, lz, kill, Fin.val, Nat.reduceAdd]
      refine V_goto (pc := 36) C (dk k_Z_notes 20 rfl) 11 rfl ?_
      refine ih (i + 1, up τ 144 i (τ 144 (i + 28))) ⟨by dsimp only; omega, by dsimp only; omega, fun u a b => ?_, fun u a => ?_, fun k c a => ?_⟩ (by dsimp only; omega)
      · dsimp only at b ⊢
        by_cases hu : u = i
        · subst hu; rw [up_at]; exact v2 _ (by omega)
        · rw [up_ne2 _ (by omega)]; exact v1 u a (by omega)
      · dsimp only at a ⊢
        rw [up_ne2 _ (by omega)]; exact v2 u (by omega)
      · dsimp only
        rw [up_ne1 _ _ _ _ a]; exact v3 k c a

def i_Z_begin : List (Nat × (Instr × Nat)) := [(0, (.aload_n 0, 1)), (1, (.aload_n 0, 1)), (2, (.getfield 58, 3)), (5, (.iconst 0, 1)), (6, (.invokevirtual 186, 3)), (9, (.return_, 1))]
theorem k_Z_begin : i_Z_begin.all (fun q => decide (decode b_Z_begin q.1 = .ok q.2)) = true := by decide +kernel

set_option maxHeartbeats 1000000 in
set_option maxRecDepth 20000 in
theorem c_Z_begin (l : Launch) (G : GE) (σ : Wd) (π : PL) (x : ST) (ok : PLok π) (hx : StM σ π x) : Ct l G y_Z_begin b_Z_begin 1 (none) 1 23 [vR 128] σ (Rt none (fun σ' => BkR σ' 145 0 π x ∧ FrB 145 0 σ σ')) := by
  refine Ct.of cm_Z_begin (Nat.le_of_ble_eq_true rfl) ?_
  intro X hXl hXG hXN hRm C E
  subst hXl; subst hXG
  show V X 0 [some (vR 128)] [] σ
  refine V_R (fun hR => ?_)
  refine V_aload_n (pc := 0) C (dk k_Z_begin 0 rfl) rfl ?_
  refine V_aload_n (pc := 1) C (dk k_Z_begin 1 rfl) rfl ?_
  refine V_getr (pc := 2) (o2 := 145) C (dk k_Z_begin 2 rfl) fl_Z_58 kq_128 (by decide) rfl (by decide) rfl ?_
  refine V_iconst (pc := 5) C (dk k_Z_begin 3 rfl) rfl ?_
  refine V_callV0r (pc := 6) C (dk k_Z_begin 4 rfl) lk_Z_186 cm_Z_lays vm_Z_lays (c_Z_lays _ _ _ 145 28 0 kq_145 (by decide) (by decide) (by decide) (by decide)) kq_128 rfl rfl rfl (Nat.le_of_ble_eq_true rfl) (Rm.mono hRm (by decide) (by decide)) (fun τ1 hq1 => ?_)
  refine V_R (fun hR => ?_)
  refine V_vret (pc := 9) C E (dk k_Z_begin 5 rfl) ?_
  exact ⟨rfl, BkR.of ok hx hq1.1, hq1.2⟩

def i_Z_putBack : List (Nat × (Instr × Nat)) := [(0, (.aload_n 0, 1)), (1, (.aload_n 0, 1)), (2, (.getfield 58, 3)), (5, (.iconst 0, 1)), (6, (.invokevirtual 209, 3)), (9, (.return_, 1))]
theorem k_Z_putBack : i_Z_putBack.all (fun q => decide (decode b_Z_putBack q.1 = .ok q.2)) = true := by decide +kernel

set_option maxHeartbeats 1000000 in
set_option maxRecDepth 20000 in
theorem c_Z_putBack (l : Launch) (G : GE) (σ : Wd) (π : PL) (x : ST) (ok : PLok π) (hb : BkR σ 145 0 π x) : Ct l G y_Z_putBack b_Z_putBack 1 (none) 1 23 [vR 128] σ (Rt none (fun σ' => StM σ' π x ∧ FrZ σ σ')) := by
  refine Ct.of cm_Z_putBack (Nat.le_of_ble_eq_true rfl) ?_
  intro X hXl hXG hXN hRm C E
  subst hXl; subst hXG
  show V X 0 [some (vR 128)] [] σ
  refine V_R (fun hR => ?_)
  refine V_aload_n (pc := 0) C (dk k_Z_putBack 0 rfl) rfl ?_
  refine V_aload_n (pc := 1) C (dk k_Z_putBack 1 rfl) rfl ?_
  refine V_getr (pc := 2) (o2 := 145) C (dk k_Z_putBack 2 rfl) fl_Z_58 kq_128 (by decide) rfl (by decide) rfl ?_
  refine V_iconst (pc := 5) C (dk k_Z_putBack 3 rfl) rfl ?_
  refine V_callV0r (pc := 6) C (dk k_Z_putBack 4 rfl) lk_Z_209 cm_Z_takes vm_Z_takes (c_Z_takes _ _ _ 145 28 0 kq_145 (by decide) (by decide) (by decide) (by decide)) kq_128 rfl rfl rfl (Nat.le_of_ble_eq_true rfl) (Rm.mono hRm (by decide) (by decide)) (fun τ1 hq1 => ?_)
  refine V_R (fun hR => ?_)
  refine V_vret (pc := 9) C E (dk k_Z_putBack 5 rfl) ?_
  exact ⟨rfl, StM.of ok hb hq1.1, hq1.2⟩
