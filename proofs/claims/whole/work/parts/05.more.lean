theorem Rm.mono {X : KX} {a b a2 b2 : Nat} (h : Rm X a b) (h1 : a2 ≤ a) (h2 : b2 ≤ b) : Rm X a2 b2 := by
  obtain ⟨p, l, e, R, s, m, args, below, meth, c, G, nL, ck, sk, Q⟩ := X
  exact ⟨Nat.le_trans h1 h.1, Nat.le_trans h2 h.2⟩
section VB
variable {X : KX} {cc : ByteArray} {own : String} {pc : Nat} {ls : List (Option AV)} {st : List AV} {σ : Wd}
theorem b_R {P : Prop} [Decidable P] : inR (if P then 1 else 0) := by split <;> exact ⟨by decide, by decide⟩
theorem V_ifeqB {P : Prop} [Decidable P] (C : Cx X cc own) {off : Int} (d : decode cc pc = .ok (.ifCond .eq off, 3)) (tgt : Nat) (ht : (pc : Int) + off = (tgt : Int)) (kt : ¬ P → V X tgt ls st σ) (kf : P → V X (pc + 3) ls st σ) : V X pc ls (vI (if P then 1 else 0) :: st) σ :=
  V_ifeq C d tgt ht b_R (fun h => kt (fun q => by rw [if_pos q] at h; cases h)) (fun h => kf (Classical.byContradiction (fun q => h (if_neg q))))
theorem V_ifneB {P : Prop} [Decidable P] (C : Cx X cc own) {off : Int} (d : decode cc pc = .ok (.ifCond .ne off, 3)) (tgt : Nat) (ht : (pc : Int) + off = (tgt : Int)) (kt : P → V X tgt ls st σ) (kf : ¬ P → V X (pc + 3) ls st σ) : V X pc ls (vI (if P then 1 else 0) :: st) σ :=
  V_ifne C d tgt ht b_R (fun h => kt (Classical.byContradiction (fun q => h (if_neg q)))) (fun h => kf (fun q => by rw [if_pos q] at h; cases h))
theorem c_R {a b : Int} : inR (if b < a then 1 else if a = b then 0 else -1) := by
  split
  · exact ⟨by decide, by decide⟩
  · split <;> exact ⟨by decide, by decide⟩
theorem V_ifeqC {a b : Int} (C : Cx X cc own) {off : Int} (d : decode cc pc = .ok (.ifCond .eq off, 3)) (tgt : Nat) (ht : (pc : Int) + off = (tgt : Int)) (kt : a = b → V X tgt ls st σ) (kf : ¬ (a = b) → V X (pc + 3) ls st σ) : V X pc ls (vI (if b < a then 1 else if a = b then 0 else -1) :: st) σ :=
  V_ifeq C d tgt ht c_R (fun h => kt (by split at h <;> (try split at h) <;> omega)) (fun h => kf (by split at h <;> (try split at h) <;> omega))
theorem V_ifneC {a b : Int} (C : Cx X cc own) {off : Int} (d : decode cc pc = .ok (.ifCond .ne off, 3)) (tgt : Nat) (ht : (pc : Int) + off = (tgt : Int)) (kt : ¬ a = b → V X tgt ls st σ) (kf : ¬ (¬ a = b) → V X (pc + 3) ls st σ) : V X pc ls (vI (if b < a then 1 else if a = b then 0 else -1) :: st) σ :=
  V_ifne C d tgt ht c_R (fun h => kt (by split at h <;> (try split at h) <;> omega)) (fun h => kf (by split at h <;> (try split at h) <;> omega))
theorem V_ifltC {a b : Int} (C : Cx X cc own) {off : Int} (d : decode cc pc = .ok (.ifCond .lt off, 3)) (tgt : Nat) (ht : (pc : Int) + off = (tgt : Int)) (kt : a < b → V X tgt ls st σ) (kf : ¬ (a < b) → V X (pc + 3) ls st σ) : V X pc ls (vI (if b < a then 1 else if a = b then 0 else -1) :: st) σ :=
  V_iflt C d tgt ht c_R (fun h => kt (by split at h <;> (try split at h) <;> omega)) (fun h => kf (by split at h <;> (try split at h) <;> omega))
theorem V_ifgeC {a b : Int} (C : Cx X cc own) {off : Int} (d : decode cc pc = .ok (.ifCond .ge off, 3)) (tgt : Nat) (ht : (pc : Int) + off = (tgt : Int)) (kt : b ≤ a → V X tgt ls st σ) (kf : ¬ (b ≤ a) → V X (pc + 3) ls st σ) : V X pc ls (vI (if b < a then 1 else if a = b then 0 else -1) :: st) σ :=
  V_ifge C d tgt ht c_R (fun h => kt (by split at h <;> (try split at h) <;> omega)) (fun h => kf (by split at h <;> (try split at h) <;> omega))
theorem V_ifgtC {a b : Int} (C : Cx X cc own) {off : Int} (d : decode cc pc = .ok (.ifCond .gt off, 3)) (tgt : Nat) (ht : (pc : Int) + off = (tgt : Int)) (kt : b < a → V X tgt ls st σ) (kf : ¬ (b < a) → V X (pc + 3) ls st σ) : V X pc ls (vI (if b < a then 1 else if a = b then 0 else -1) :: st) σ :=
  V_ifgt C d tgt ht c_R (fun h => kt (by split at h <;> (try split at h) <;> omega)) (fun h => kf (by split at h <;> (try split at h) <;> omega))
theorem V_ifleC {a b : Int} (C : Cx X cc own) {off : Int} (d : decode cc pc = .ok (.ifCond .le off, 3)) (tgt : Nat) (ht : (pc : Int) + off = (tgt : Int)) (kt : a ≤ b → V X tgt ls st σ) (kf : ¬ (a ≤ b) → V X (pc + 3) ls st σ) : V X pc ls (vI (if b < a then 1 else if a = b then 0 else -1) :: st) σ :=
  V_ifle C d tgt ht c_R (fun h => kt (by split at h <;> (try split at h) <;> omega)) (fun h => kf (by split at h <;> (try split at h) <;> omega))
theorem ms_min : Cond.static Lib.Math.min.name ∈ gw := gw_in 560 (by decide +kernel) rfl
theorem mc_min : Cond.code Lib.Math.min.name Lib.Math.min.code 2 (some .int) ∈ gw := gw_in 561 (by decide +kernel) rfl
theorem mi_min : Cond.initialized "java/lang/Math" ∈ gw := gw_in 97 (by decide +kernel) rfl
theorem ml_M_31 : Cond.methodLink "ForgoneShop$Memory" 31 Lib.Math.min.name ∈ gw := gw_in 559 (by decide +kernel) rfl
theorem ml_F_282 : Cond.methodLink "ForgoneShop" 282 Lib.Math.min.name ∈ gw := gw_in 597 (by decide +kernel) rfl
theorem ml_C_39 : Cond.methodLink "ForgoneShop$Choice" 39 Lib.Math.min.name ∈ gw := gw_in 646 (by decide +kernel) rfl
theorem ml_E_89 : Cond.methodLink "ForgoneShop$Exchange" 89 Lib.Math.min.name ∈ gw := gw_in 698 (by decide +kernel) rfl
theorem V_mmin (C : Cx X cc own) {index : Nat} {a b : Int} (d : decode cc pc = .ok (.invokestatic index, 3)) (ml : Cond.methodLink own index Lib.Math.min.name ∈ gw) (ha : inR a) (hb1 : inR b) (hst : (st.map avc).sum ≤ 8) (hRm : Rm X 1 26) (k : V X (pc + 3) ls (vI (min a b) :: st) σ) : V X pc ls (vI b :: vI a :: st) σ := by
  obtain ⟨p, l, e, R, s, m, args, below, meth, c, G, nL, ck, sk, Q⟩ := X
  obtain ⟨hx, hb, hml, hown, hlk, hts, hPK, hap, hck, hsk⟩ := C
  intro hR H locs sl hP hS hL
  have hRm : 1 ≤ R.frames ∧ 26 ≤ R.locals := hRm
  refine va_mmin hx hb (by rw [hml]; exact hL.1.symm) hown (hts _ ml) (hts _ ms_min) (hts _ mi_min) (hts _ mc_min) hRm.1 (by rw [cv_cats]; omega) hck hsk d ?_
  have e : (if Int32.ofInt b < Int32.ofInt a then Int32.ofInt b else Int32.ofInt a) = Int32.ofInt (min a b) := by
    by_cases h : b < a
    · rw [if_pos ((oi_lt hb1 ha).mpr h)]; congr 1; omega
    · rw [if_neg (fun q => h ((oi_lt hb1 ha).mp q))]; congr 1; omega
  rw [e]
  exact k hR H locs sl hP hS hL
theorem ms_max : Cond.static Lib.Math.max.name ∈ gw := gw_in 599 (by decide +kernel) rfl
theorem mc_max : Cond.code Lib.Math.max.name Lib.Math.max.code 2 (some .int) ∈ gw := gw_in 600 (by decide +kernel) rfl
theorem mi_max : Cond.initialized "java/lang/Math" ∈ gw := gw_in 97 (by decide +kernel) rfl
theorem ml_F_287 : Cond.methodLink "ForgoneShop" 287 Lib.Math.max.name ∈ gw := gw_in 598 (by decide +kernel) rfl
theorem V_mmax (C : Cx X cc own) {index : Nat} {a b : Int} (d : decode cc pc = .ok (.invokestatic index, 3)) (ml : Cond.methodLink own index Lib.Math.max.name ∈ gw) (ha : inR a) (hb1 : inR b) (hst : (st.map avc).sum ≤ 8) (hRm : Rm X 1 26) (k : V X (pc + 3) ls (vI (max a b) :: st) σ) : V X pc ls (vI b :: vI a :: st) σ := by
  obtain ⟨p, l, e, R, s, m, args, below, meth, c, G, nL, ck, sk, Q⟩ := X
  obtain ⟨hx, hb, hml, hown, hlk, hts, hPK, hap, hck, hsk⟩ := C
  intro hR H locs sl hP hS hL
  have hRm : 1 ≤ R.frames ∧ 26 ≤ R.locals := hRm
  refine va_mmax hx hb (by rw [hml]; exact hL.1.symm) hown (hts _ ml) (hts _ ms_max) (hts _ mi_max) (hts _ mc_max) hRm.1 (by rw [cv_cats]; omega) hck hsk d ?_
  have e : (if Int32.ofInt a < Int32.ofInt b then Int32.ofInt b else Int32.ofInt a) = Int32.ofInt (max a b) := by
    by_cases h : a < b
    · rw [if_pos ((oi_lt ha hb1).mpr h)]; congr 1; omega
    · rw [if_neg (fun q => h ((oi_lt ha hb1).mp q))]; congr 1; omega
  rw [e]
  exact k hR H locs sl hP hS hL
/-- a loop: what holds at its head, and that it falls -/
theorem V_loop {ι : Type} (P : ι → Prop) (L : ι → List (Option AV)) (S : ι → Wd) (μ : ι → Nat) (h : ∀ x, P x → (∀ y, P y → μ y < μ x → V X pc (L y) [] (S y)) → V X pc (L x) [] (S x)) (x : ι) (hx : P x) : V X pc (L x) [] (S x) := by
  have key : ∀ (n : Nat) (x : ι), P x → μ x < n → V X pc (L x) [] (S x) := by
    intro n
    induction n with
    | zero => intro x _ h0; exact absurd h0 (Nat.not_lt_zero _)
    | succ n ih => intro x hx hn; exact h x hx (fun y hy hlt => ih y hy (by omega))
  exact key (μ x + 1) x hx (Nat.lt_succ_self _)
end VB
theorem kd_S {s : Nat} (h : kd s = 7) : kd (s + 1) = 1000 + 5 ∧ kd (s + 2) = 1000 + 5 ∧ kd (s + 3) = 1000 + 8 ∧ kd (s + 4) = 1000 + 8 := by
  have hs := kd_lt h (by decide)
  have key : ∀ q : Fin NO, kd q.val = 7 → kd (q.val + 1) = 1000 + 5 ∧ kd (q.val + 2) = 1000 + 5 ∧ kd (q.val + 3) = 1000 + 8 ∧ kd (q.val + 4) = 1000 + 8 := by decide +kernel
  exact key ⟨s, hs⟩ h
theorem kd_P {s : Nat} (h : kd s = 5) : kd (s + 1) = 1000 + 5 ∧ kd (s + 2) = 1000 + 8 ∧ kd (s + 3) = 1000 + 8 ∧ kd (s + 4) = 1000 + 8 ∧ kd (s + 5) = 1000 + 8 ∧ kd (s + 6) = 1000 + 12 := by
  have hs := kd_lt h (by decide)
  have key : ∀ q : Fin NO, kd q.val = 5 → kd (q.val + 1) = 1000 + 5 ∧ kd (q.val + 2) = 1000 + 8 ∧ kd (q.val + 3) = 1000 + 8 ∧ kd (q.val + 4) = 1000 + 8 ∧ kd (q.val + 5) = 1000 + 8 ∧ kd (q.val + 6) = 1000 + 12 := by decide +kernel
  exact key ⟨s, hs⟩ h
theorem kd_M {s : Nat} (h : kd s = 4) : kd (s + 1) = 3000 ∧ ∀ j : Nat, j < 8 → kd (s + 2 + 5 * j) = 7 := by
  have hs := kd_lt h (by decide)
  have key : ∀ q : Fin NO, kd q.val = 4 → kd (q.val + 1) = 3000 ∧ ∀ j : Fin 8, kd (q.val + 2 + 5 * j.val) = 7 := by decide +kernel
  exact ⟨(key ⟨s, hs⟩ h).1, fun j hj => (key ⟨s, hs⟩ h).2 ⟨j, hj⟩⟩
