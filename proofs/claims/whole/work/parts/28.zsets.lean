theorem fnd_ext {ok : Nat → Bool} {W : Nat → Int} {a : Nat} : ∀ c : Nat, a ≤ c → (∀ b, a ≤ b → b < c → ok b = false) → fnd ok W c = fnd ok W a
  | 0, h, _ => by obtain rfl : a = 0 := by omega
                  rfl
  | c + 1, h, hb => by
    by_cases e : a = c + 1
    · rw [e]
    · rw [fnd_no (hb c (by omega) (by omega)), fnd_ext c (by omega) (fun b h1 h2 => hb b h1 (by omega))]
theorem fnd_0 {ok : Nat → Bool} {W : Nat → Int} (h : ok 0 = true) : ∀ i : Nat, fnd ok W (i + 1) ≠ none
  | 0 => by
    rw [fnd_s]
    show (if ok 0 = true then some (0, W 0) else none) ≠ none
    rw [if_pos h]; exact fun z => by cases z
  | i + 1 => by
    rw [fnd_s]
    cases hf : fnd ok W (i + 1) with
    | none => exact absurd hf (fnd_0 h i)
    | some q =>
      obtain ⟨s, v⟩ := q
      show (if (ok (i + 1) && decide (v < W (i + 1))) = true then some (i + 1, W (i + 1)) else some (s, v)) ≠ none
      split <;> exact fun z => by cases z
theorem bs_and (c d : Int → Bool) (n : Nat) : (bs c n).toNat &&& (bs d n).toNat = (bs (fun t => c t && d t) n).toNat := Nat.eq_of_testBit_eq (fun k => by
  rw [Nat.testBit_and, bs_tb, bs_tb, bs_tb]
  cases decide (k < n) <;> cases c k <;> cases d k <;> rfl)
theorem sumC_and (π : PL) (x : ST) (p : Int) : (fun t => decide (pO π t = p ∧ sP x t = 0) && takC π x t) = sumC π x p := funext (fun t => by
  unfold takC sumC
  rw [← Bool.decide_and]
  exact decide_eq_decide.mpr ⟨fun h => ⟨h.1.1, h.1.2, h.2.2⟩, fun h => ⟨⟨h.1, h.2.1⟩, h.2.1, h.2.2⟩⟩)
theorem bs_sumC (π : PL) (x : ST) (p : Int) (n : Nat) : (bs (fun t => decide (pO π t = p ∧ sP x t = 0)) n).toNat &&& (bs (takC π x) n).toNat = (bs (sumC π x p) n).toNat := by
  rw [bs_and]; exact congrArg (fun f => (bs f n).toNat) (sumC_and π x p)
theorem bs_lt (c : Int → Bool) (n : Nat) : (bs c n).toNat < 2 ^ n := by
  obtain ⟨h1, h2⟩ := bs_b c n
  have h3 : (((bs c n).toNat : Nat) : Int) < ((2 ^ n : Nat) : Int) := by
    rw [Int.natCast_pow, Int.toNat_of_nonneg h1]; exact h2
  exact Int.ofNat_lt.mp h3
theorem ssum_neg (f : Int → Int) (b : Nat) : ∀ n : Nat, ssum (fun t => -(f t)) n b = -(ssum f n b)
  | 0 => rfl
  | n + 1 => by rw [ssum_s, ssum_s, ssum_neg f b n]; split <;> omega
theorem ssum_z (f : Int → Int) : ∀ n : Nat, ssum f n 0 = 0
  | 0 => rfl
  | n + 1 => by rw [ssum_s, ssum_z f n, Nat.zero_testBit]; rfl
theorem okset_gt {al : Nat} {P : Nat → Int} {le mo : Int} {b : Nat} (h : al < b) : okset al P le mo b = false := by
  unfold okset
  rw [decide_eq_false (show ¬ b - (b &&& al) = 0 from fun e => by
    have h1 : (b &&& al) ≤ al := Nat.and_le_right
    omega)]
  rfl
theorem okset_iff {al : Nat} {P : Nat → Int} {le mo : Int} {b : Nat} : okset al P le mo b = true ↔ (b - (b &&& al) = 0 ∧ le ≤ P b ∧ P b ≤ mo) := by
  unfold okset; rw [Bool.and_eq_true, decide_eq_true_iff, decide_eq_true_iff]
def sb (o : Option (Nat × Int)) : Int := match o with
  | none => -4
  | some (s, _) => s
def sl (o : Option (Nat × Int)) : Int := match o with
  | none => 1048576
  | some (_, v) => -v
theorem fnd_sb {ok : Nat → Bool} {W : Nat → Int} {i : Nat} (hW : -(W i) < 1048576) : (ok i = true ∧ -(W i) < sl (fnd ok W i) → fnd ok W (i + 1) = some (i, W i)) ∧ (¬ (ok i = true ∧ -(W i) < sl (fnd ok W i)) → fnd ok W (i + 1) = fnd ok W i) := by
  constructor
  · rintro ⟨h1, h2⟩
    exact fnd_yes h1 (fun s v h => by
      rw [h] at h2
      have : sl (some (s, v)) = -v := rfl
      omega)
  · intro h
    cases hc : ok i with
    | false => exact fnd_no hc
    | true =>
      cases hf : fnd ok W i with
      | none => exact absurd ⟨hc, by rw [hf]; exact hW⟩ h
      | some q =>
        obtain ⟨s, v⟩ := q
        rw [← hf]
        exact fnd_le hf (fun e => h ⟨hc, by rw [hf]; show -(W i) < -v; omega⟩)
theorem sum_end (o : Option (Nat × Int)) (k : Int) : (match o with
  | none => -4
  | some (s, v) => if k = 0 then (s : Int) else -v) = if sb o = -4 ∨ k = 0 then sb o else sl o := by
  cases o with
  | none => exact (if_pos (Or.inl rfl)).symm
  | some q =>
    obtain ⟨s, v⟩ := q
    show (if k = 0 then (s : Int) else -v) = if ((s : Int) = -4 ∨ k = 0) then (s : Int) else -v
    by_cases hk : k = 0
    · rw [if_pos hk, if_pos (Or.inr hk)]
    · rw [if_neg hk, if_neg (by omega)]
def tb (o : Option (Nat × Int)) : Int := match o with
  | none => 0
  | some (s, _) => s
def tm (T : Int) (o : Option (Nat × Int)) : Int := match o with
  | none => -1
  | some (_, v) => T + v
theorem fnd_tb {ok : Nat → Bool} {W : Nat → Int} {i : Nat} {T : Int} (hW : -1 < T + W i) : (ok i = true ∧ tm T (fnd ok W i) < T + W i → fnd ok W (i + 1) = some (i, W i)) ∧ (¬ (ok i = true ∧ tm T (fnd ok W i) < T + W i) → fnd ok W (i + 1) = fnd ok W i) := by
  constructor
  · rintro ⟨h1, h2⟩
    exact fnd_yes h1 (fun s v h => by
      rw [h] at h2
      have : tm T (some (s, v)) = T + v := rfl
      omega)
  · intro h
    cases hc : ok i with
    | false => exact fnd_no hc
    | true =>
      cases hf : fnd ok W i with
      | none => exact absurd ⟨hc, by rw [hf]; exact hW⟩ h
      | some q =>
        obtain ⟨s, v⟩ := q
        rw [← hf]
        exact fnd_le hf (fun e => h ⟨hc, by rw [hf]; show T + v < T + W i; omega⟩)
theorem take_end (o : Option (Nat × Int)) (T k : Int) : o ≠ none → (match o with
  | none => if k = 0 then 0 else T
  | some (s, v) => if k = 0 then (s : Int) else T + v) = if k = 0 then tb o else tm T o := by
  intro h
  cases o with
  | none => exact absurd rfl h
  | some q => rfl
/-- a set of things put into the cellar, as far as the thing i -/
def mkI (x : ST) (b i : Nat) : ST := (sD x, (sM x, (sG x, (sR x, (sN x, fun t => if t < (i : Int) ∧ b.testBit t.toNat = true then 1 else sP x t)))))
theorem mk_P (x : ST) (b i : Nat) : sP (mkI x b i) (i : Int) = sP x i := if_neg (fun q => by omega)
theorem mk_0 {τ : Wd} {π : PL} {x : ST} (b : Nat) (h : StM τ π x) : StM τ π (mkI x b 0) :=
  h.cg rfl rfl (fun q a c => ⟨rfl, rfl⟩) (fun t a c => ⟨rfl, (if_neg (fun q => by omega)).symm⟩)
theorem mk_s {ρ : Wd} {π : PL} {x : ST} {b i : Nat} (h : StM ρ π (mkI x b i)) (v : Int) (hv : v = if b.testBit i = true then 1 else sP x i) : StM (up ρ 136 (i : Int) v) π (mkI x b (i + 1)) := by
  refine (h.upP _ _).cg rfl rfl (fun q a c => ⟨rfl, rfl⟩) (fun t a c => ⟨rfl, ?_⟩)
  show fu (sP (mkI x b i)) (i : Int) v t = if t < ((i + 1 : Nat) : Int) ∧ b.testBit t.toNat = true then 1 else sP x t
  unfold fu
  by_cases ht : t = i
  · subst ht
    rw [if_pos rfl, hv, Int.toNat_natCast]
    by_cases hb : b.testBit i = true
    · rw [if_pos hb, if_pos ⟨by omega, hb⟩]
    · rw [if_neg hb, if_neg (fun q => hb q.2)]
  · rw [if_neg ht]
    show (if t < (i : Int) ∧ b.testBit t.toNat = true then 1 else sP x t) = _
    by_cases hb : t < (i : Int) ∧ b.testBit t.toNat = true
    · rw [if_pos hb, if_pos ⟨by omega, hb.2⟩]
    · rw [if_neg hb, if_neg (fun q => hb ⟨by omega, q.2⟩)]
theorem mk_ok {π : PL} {x : ST} {j : Int} {b : Nat} (xk : STok π x j) (hb : ∀ t : Int, 0 ≤ t → t < pN π → b.testBit t.toNat = true → sP x t = 0) : STok π (mkI x b (pN π)) j := by
  obtain ⟨a1, a2, a3, a4, aQ, aT⟩ := xk
  refine ⟨a1, a2, a3, a4, aQ, fun t h0 h1 => ?_⟩
  obtain ⟨n0, n1, p0, p1, pn⟩ := aT t h0 h1
  refine ⟨n0, n1, ?_⟩
  show 0 ≤ (if t < (pN π : Int) ∧ b.testBit t.toNat = true then 1 else sP x t) ∧ (if t < (pN π : Int) ∧ b.testBit t.toNat = true then 1 else sP x t) ≤ 2 ∧ ((if t < (pN π : Int) ∧ b.testBit t.toNat = true then 1 else sP x t) = 2 ↔ sN x t = 0)
  by_cases hc : t < (pN π : Int) ∧ b.testBit t.toNat = true
  · have := hb t h0 h1 hc.2
    rw [if_pos hc]; omega
  · rw [if_neg hc]; omega
theorem take_by {π : PL} {x : ST} {j n : Int} {b : Nat} (xk : STok π x j) (hb : ∀ t : Int, 0 ≤ t → t < pN π → b.testBit t.toNat = true → sP x t = 0) : cellar π (daysX π (mkI x b (pN π)) n.toNat) = there π x n (pN π) + ssum (come π x n) (pN π) b := by
  have key : ∀ m : Nat, m ≤ pN π → sm (fun t => if sP (daysX π (mkI x b (pN π)) n.toNat) t = 1 then sN (daysX π (mkI x b (pN π)) n.toNat) t else 0) m = there π x n m + ssum (come π x n) m b := by
    intro m
    induction m with
    | zero => intro _; rfl
    | succ m ih =>
      intro hm
      have e1 : there π x n (m + 1) = there π x n m + (if sP x m = 1 then come π x n m else 0) := rfl
      rw [sm_s, e1, ssum_s, ih (by omega)]
      obtain ⟨n0, n1, p0, p1, pn⟩ := xk.2.2.2.2.2 m (by omega) (by omega)
      have hbm := hb m (by omega) (by omega)
      rw [Int.toNat_natCast] at hbm
      have ez : sP (mkI x b (pN π)) (m : Int) = if (m : Int) < (pN π : Int) ∧ b.testBit (m : Int).toNat = true then 1 else sP x m := rfl
      rw [Int.toNat_natCast] at ez
      have en : sN (mkI x b (pN π)) (m : Int) = sN x m := rfl
      have ed : sD (mkI x b (pN π)) = sD x := rfl
      have ec : come π x n m = cel (pK π m) (sN x m) (sD x) n.toNat := rfl
      by_cases h1 : sP (mkI x b (pN π)) (m : Int) = 1
      · have hn : sN x m ≠ 0 := fun q => by
          by_cases ht : b.testBit m = true
          · have := hbm ht; omega
          · rw [if_neg (fun q => ht q.2)] at ez; omega
        obtain ⟨q1, q2⟩ := days_C (π := π) h1 (by rw [en]; exact hn) n.toNat
        rw [en, ed, ← ec] at q1 q2
        rw [q1, q2]
        have e3 : (if (if come π x n m = 0 then (2 : Int) else 1) = 1 then come π x n m else 0) = come π x n m := by
          by_cases hz : come π x n m = 0
          · rw [if_pos hz, if_neg (by decide), hz]
          · rw [if_neg hz, if_pos rfl]
        rw [e3]
        by_cases ht : b.testBit m = true
        · rw [if_pos ht, if_neg (show ¬ sP x m = 1 by have := hbm ht; omega)]; omega
        · rw [if_neg ht, if_pos (by rw [if_neg (fun q => ht q.2)] at ez; omega)]; omega
      · obtain ⟨q1, q2⟩ := days_N (π := π) h1 n.toNat
        rw [q2, if_neg h1]
        by_cases ht : b.testBit m = true
        · exact absurd (by rw [ez, if_pos ⟨by omega, ht⟩]) h1
        · rw [if_neg ht, if_neg (by rw [if_neg (fun q => ht q.2)] at ez; omega)]; omega
  exact key (pN π) (Nat.le_refl _)
theorem sub_tb {π : PL} {x : ST} {b al : Nat} (hal : al = (bs (takC π x) (pN π)).toNat) (h : b - (b &&& al) = 0) : ∀ t : Int, 0 ≤ t → t < pN π → b.testBit t.toNat = true → sP x t = 0 := by
  intro t h0 h1 ht
  have e : b = b &&& al := by
    have : (b &&& al) ≤ b := Nat.and_le_left
    omega
  rw [e, Nat.testBit_and, Bool.and_eq_true] at ht
  have h2 := ht.2
  rw [hal, bs_tb, Bool.and_eq_true] at h2
  have h3 := h2.2
  rw [Int.toNat_of_nonneg h0] at h3
  exact (of_decide_eq_true h3).1
theorem come_b {π : PL} {x : ST} {j n t : Int} (xk : STok π x j) (h0 : 0 ≤ t) (h1 : t < pN π) : 0 ≤ come π x n t ∧ come π x n t ≤ 99 := by
  obtain ⟨n0, n1, -⟩ := xk.2.2.2.2.2 t h0 h1
  exact cel_b n0 n1 _
theorem there_b {π : PL} {x : ST} {j n : Int} (xk : STok π x j) : ∀ i : Nat, i ≤ pN π → 0 ≤ there π x n i ∧ there π x n i ≤ 99 * i
  | 0, _ => ⟨Int.le_refl 0, Int.le_refl 0⟩
  | i + 1, h => by
    have ⟨h1, h2⟩ := there_b (n := n) xk i (by omega)
    have ⟨c1, c2⟩ := come_b (n := n) xk (t := (i : Int)) (by omega) (by omega)
    have e1 : there π x n (i + 1) = there π x n i + (if sP x i = 1 then come π x n i else 0) := rfl
    rw [e1]
    split <;> omega
theorem ssum_0 (f : Int → Int) (c : Int) (hc : 0 ≤ c) : ∀ (n b : Nat), (∀ t : Int, 0 ≤ t → t < n → 0 ≤ f t ∧ f t ≤ c) → 0 ≤ ssum f n b ∧ ssum f n b ≤ c * n
  | 0, b, _ => by simp [ssum, sm]
  | n + 1, b, h => by
    have ⟨h1, h2⟩ := ssum_0 f c hc n b (fun t a d => h t a (by omega))
    have ⟨h3, h4⟩ := h n (by omega) (by omega)
    have e : c * ((n + 1 : Nat) : Int) = c * n + c := by rw [Int.natCast_add, Int.mul_add]; simp
    rw [ssum_s, e]
    split <;> omega

def i_Z_sumOf : List (Nat × (Instr × Nat)) := [(0, (.iconst 0, 1)), (1, (.istore_n 3, 1)), (2, (.iconst 0, 1)), (3, (.istore 4, 2)), (5, (.iload 4, 2)), (7, (.aload_n 0, 1)), (8, (.getfield 81, 3)), (11, (.if_icmp .ge 45, 3)), (14, (.iload_n 3, 1)), (15, (.iload_n 1, 1)), (16, (.iload 4, 2)), (18, (.invokestatic 221, 3)), (21, (.ifCond .ne 7, 3)), (24, (.iconst 0, 1)), (25, (.goto 23, 3)), (28, (.iload_n 2, 1)), (29, (.ifCond .eq 12, 3)), (32, (.aload_n 0, 1)), (33, (.iload 4, 2)), (35, (.invokevirtual 183, 3)), (38, (.goto 10, 3)), (41, (.aload_n 0, 1)), (42, (.getfield 19, 3)), (45, (.iload 4, 2)), (47, (.iaload, 1)), (48, (.iadd, 1)), (49, (.istore_n 3, 1)), (50, (.iinc 4 1, 3)), (53, (.goto (-48), 3)), (56, (.iload_n 3, 1)), (57, (.ireturn, 1))]
theorem k_Z_sumOf : i_Z_sumOf.all (fun q => decide (decode b_Z_sumOf q.1 = .ok q.2)) = true := by decide +kernel

set_option maxHeartbeats 1000000 in
set_option maxRecDepth 20000 in
theorem c_Z_sumOf (l : Launch) (G : GE) (σ : Wd) (π : PL) (x : ST) (j : Int) (b : Nat) (z : Int) (F : Int → Int) (hπ : PlM σ π) (ok : PLok π) (hx : StM σ π x) (xk : STok π x j) (hj : j ≤ 200) (hb : b < 65536) (hF : (z = 0 ∧ F = pU π) ∨ (z = 1 ∧ F = prc π x)) : Ct l G y_Z_sumOf b_Z_sumOf 5 (some (.int)) 2 42 [vR 128, vI (b : Int), vI z] σ (Dt (some (vI (ssum F (pN π) b))) σ) := by
  refine Ct.of cm_Z_sumOf (Nat.le_of_ble_eq_true rfl) ?_
  intro X hXl hXG hXN hRm C E
  subst hXl; subst hXG
  show V X 0 [some (vR 128), some (vI (b : Int)), some (vI z), none, none] [] σ
  refine V_R (fun hR => ?_)
  have hπ0 := hπ
  obtain ⟨e0, e1, e2, e3, eT, eX⟩ := hπ
  have ⟨k1, k2, k3, k4, k5, k6, kT, kX⟩ := ok
  have hx0 := hx
  obtain ⟨f0, f1, fQ, fT⟩ := hx
  have ⟨x1, x2, x3, x4, xQ, xT⟩ := xk
  have hzR : inR z := by rcases hF with ⟨h, -⟩ | ⟨h, -⟩ <;> rw [h] <;> exact ⟨by decide, by decide⟩
  refine V_iconst (pc := 0) C (dk k_Z_sumOf 0 rfl) rfl ?_
  refine V_istore_n (pc := 1) C (dk k_Z_sumOf 1 rfl) (by rw [hXN]; decide) ?_
  dsimp only [lst, lstL, lz, kill, Fin.val, Nat.reduceAdd]
  refine V_iconst (pc := 2) C (dk k_Z_sumOf 2 rfl) rfl ?_
  refine V_istore (pc := 3) C (dk k_Z_sumOf 3 rfl) (by rw [hXN]; decide) ?_
  dsimp only [lst, lstL, lz, kill, Fin.val, Nat.reduceAdd]
  refine V_eq (V_loop (fun t : Nat => t ≤ pN π) (fun t => [some (vR 128), some (vI (b : Int)), some (vI z), some (vI (ssum F t b)), some (vI (t : Int))]) (fun _ => σ) (fun t => pN π - t) (fun t ht ih => ?_) 0 (Nat.zero_le _)) rfl rfl rfl
  refine V_iload (pc := 5) C (dk k_Z_sumOf 4 rfl) rfl ?_
  refine V_aload_n (pc := 7) C (dk k_Z_sumOf 5 rfl) rfl ?_
  refine V_geti (pc := 8) (ji := 1) C (dk k_Z_sumOf 6 rfl) fl_Z_81 kq_128 (by decide) rfl rfl ?_
  rw [e1]
  refine V_icmpge (pc := 11) C (dk k_Z_sumOf 7 rfl) 56 rfl (by first | exact hR _ _ | with_reducible assumption | exact ⟨by omega, by omega⟩) (by first | exact hR _ _ | with_reducible assumption | exact ⟨by omega, by omega⟩) (fun h1 => ?_) (fun h1 => ?_)
  · skip
    refine V_iload_n (pc := 56) C (dk k_Z_sumOf 29 rfl) rfl ?_
    refine V_iret (pc := 57) C E (dk k_Z_sumOf 30 rfl) ?_
    obtain rfl : t = pN π := by omega
    exact ⟨rfl, rfl⟩
  · skip
    refine V_iload_n (pc := 14) C (dk k_Z_sumOf 8 rfl) rfl ?_
    refine V_iload_n (pc := 15) C (dk k_Z_sumOf 9 rfl) rfl ?_
    refine V_iload (pc := 16) C (dk k_Z_sumOf 10 rfl) rfl ?_
    refine V_callS (pc := 18) C (dk k_Z_sumOf 11 rfl) lk_Z_221 cm_Z_has sm_Z_has (c_Z_has _ _ _ b t (by omega) (by omega)) rfl rfl (Nat.le_of_ble_eq_true rfl) (Rm.mono hRm (by decide) (by decide)) ?_
    refine V_ifneB (pc := 21) C (dk k_Z_sumOf 12 rfl) 28 rfl (fun h2 => ?_) (fun h2 => ?_)
    · skip
      refine V_iload_n (pc := 28) C (dk k_Z_sumOf 15 rfl) rfl ?_
      refine V_ifeq (pc := 29) C (dk k_Z_sumOf 16 rfl) 41 rfl (by first | exact hR _ _ | with_reducible assumption | exact ⟨by omega, by omega⟩) (fun h3 => ?_) (fun h3 => ?_)
      · skip
        refine V_aload_n (pc := 41) C (dk k_Z_sumOf 21 rfl) rfl ?_
        refine V_getr (pc := 42) (o2 := 132) C (dk k_Z_sumOf 22 rfl) fl_Z_19 kq_128 (by decide) rfl (by decide) rfl ?_
        refine V_iload (pc := 45) C (dk k_Z_sumOf 23 rfl) rfl ?_
        refine V_iald (pc := 47) C (dk k_Z_sumOf 24 rfl) kq_132 (by decide) (by omega) (by omega) ?_
        try rw [(eT t (by omega) (by omega)).2.2]
        refine V_iadd (pc := 48) C (dk k_Z_sumOf 25 rfl) ?_
        refine V_istore_n (pc := 49) C (dk k_Z_sumOf 26 rfl) (by rw [hXN]; decide) ?_
        dsimp only [lst, lstL, lz, kill, Fin.val, Nat.reduceAdd]
        refine V_iinc (pc := 50) C (dk k_Z_sumOf 27 rfl) (by rw [hXN]; decide) rfl ?_
        dsimp only [lst, lstL, lz, kill, Fin.val, Nat.reduceAdd]
        refine V_goto (pc := 53) C (dk k_Z_sumOf 28 rfl) 5 rfl ?_
        refine V_eq (ih (t + 1) (by omega) (by omega)) ?_ rfl rfl
        rw [ssum_s]
        first | (rw [if_neg (show ¬ b.testBit t = true by assumption)]; rfl) | (rw [if_pos (show b.testBit t = true by assumption)]; rcases hF with ⟨hz, hf⟩ | ⟨hz, hf⟩ <;> first | (exfalso; omega) | (rw [hf]; rfl))
      · skip
        refine V_aload_n (pc := 32) C (dk k_Z_sumOf 17 rfl) rfl ?_
        refine V_iload (pc := 33) C (dk k_Z_sumOf 18 rfl) rfl ?_
        refine V_callV (pc := 35) C (dk k_Z_sumOf 19 rfl) lk_Z_183 cm_Z_price vm_Z_price (c_Z_price _ _ _ π x j t hπ0 ok hx0 xk hj (by omega) (by omega)) kq_128 rfl rfl rfl (Nat.le_of_ble_eq_true rfl) (Rm.mono hRm (by decide) (by decide)) ?_
        refine V_goto (pc := 38) C (dk k_Z_sumOf 20 rfl) 48 rfl ?_
        try rw [(eT t (by omega) (by omega)).2.2]
        refine V_iadd (pc := 48) C (dk k_Z_sumOf 25 rfl) ?_
        refine V_istore_n (pc := 49) C (dk k_Z_sumOf 26 rfl) (by rw [hXN]; decide) ?_
        dsimp only [lst, lstL, lz, kill, Fin.val, Nat.reduceAdd]
        refine V_iinc (pc := 50) C (dk k_Z_sumOf 27 rfl) (by rw [hXN]; decide) rfl ?_
        dsimp only [lst, lstL, lz, kill, Fin.val, Nat.reduceAdd]
        refine V_goto (pc := 53) C (dk k_Z_sumOf 28 rfl) 5 rfl ?_
        refine V_eq (ih (t + 1) (by omega) (by omega)) ?_ rfl rfl
        rw [ssum_s]
        first | (rw [if_neg (show ¬ b.testBit t = true by assumption)]; rfl) | (rw [if_pos (show b.testBit t = true by assumption)]; rcases hF with ⟨hz, hf⟩ | ⟨hz, hf⟩ <;> first | (exfalso; omega) | (rw [hf]; rfl))
    · skip
      refine V_iconst (pc := 24) C (dk k_Z_sumOf 13 rfl) rfl ?_
      refine V_goto (pc := 25) C (dk k_Z_sumOf 14 rfl) 48 rfl ?_
      try rw [(eT t (by omega) (by omega)).2.2]
      refine V_iadd (pc := 48) C (dk k_Z_sumOf 25 rfl) ?_
      refine V_istore_n (pc := 49) C (dk k_Z_sumOf 26 rfl) (by rw [hXN]; decide) ?_
      dsimp only [lst, lstL, lz, kill, Fin.val, Nat.reduceAdd]
      refine V_iinc (pc := 50) C (dk k_Z_sumOf 27 rfl) (by rw [hXN]; decide) rfl ?_
      dsimp only [lst, lstL, lz, kill, Fin.val, Nat.reduceAdd]
      refine V_goto (pc := 53) C (dk k_Z_sumOf 28 rfl) 5 rfl ?_
      refine V_eq (ih (t + 1) (by omega) (by omega)) ?_ rfl rfl
      rw [ssum_s]
      first | (rw [if_neg (show ¬ b.testBit t = true by assumption)]; rfl) | (rw [if_pos (show b.testBit t = true by assumption)]; rcases hF with ⟨hz, hf⟩ | ⟨hz, hf⟩ <;> first | (exfalso; omega) | (rw [hf]; rfl))

def i_Z_takable : List (Nat × (Instr × Nat)) := [(0, (.iconst 0, 1)), (1, (.istore_n 1, 1)), (2, (.iconst 0, 1)), (3, (.istore_n 2, 1)), (4, (.iload_n 2, 1)), (5, (.aload_n 0, 1)), (6, (.getfield 81, 3)), (9, (.if_icmp .ge 41, 3)), (12, (.iload_n 1, 1)), (13, (.aload_n 0, 1)), (14, (.getfield 31, 3)), (17, (.iload_n 2, 1)), (18, (.iaload, 1)), (19, (.ifCond .ne 22, 3)), (22, (.aload_n 0, 1)), (23, (.getfield 28, 3)), (26, (.iload_n 2, 1)), (27, (.iaload, 1)), (28, (.aload_n 0, 1)), (29, (.getfield 90, 3)), (32, (.if_icmp .lt 9, 3)), (35, (.iconst 1, 1)), (36, (.iload_n 2, 1)), (37, (.ishl, 1)), (38, (.goto 4, 3)), (41, (.iconst 0, 1)), (42, (.ior, 1)), (43, (.istore_n 1, 1)), (44, (.iinc 2 1, 3)), (47, (.goto (-43), 3)), (50, (.iload_n 1, 1)), (51, (.ireturn, 1))]
theorem k_Z_takable : i_Z_takable.all (fun q => decide (decode b_Z_takable q.1 = .ok q.2)) = true := by decide +kernel

set_option maxHeartbeats 1000000 in
set_option maxRecDepth 20000 in
theorem c_Z_takable (l : Launch) (G : GE) (σ : Wd) (π : PL) (x : ST) (j : Int) (hπ : PlM σ π) (ok : PLok π) (hx : StM σ π x) (xk : STok π x j) (hj : j ≤ 200) : Ct l G y_Z_takable b_Z_takable 3 (some (.int)) 0 0 [vR 128] σ (Dt (some (vI (bs (takC π x) (pN π)))) σ) := by
  refine Ct.of cm_Z_takable (Nat.le_of_ble_eq_true rfl) ?_
  intro X hXl hXG hXN hRm C E
  subst hXl; subst hXG
  show V X 0 [some (vR 128), none, none] [] σ
  refine V_R (fun hR => ?_)
  have hπ0 := hπ
  obtain ⟨e0, e1, e2, e3, eT, eX⟩ := hπ
  have ⟨k1, k2, k3, k4, k5, k6, kT, kX⟩ := ok
  have hx0 := hx
  obtain ⟨f0, f1, fQ, fT⟩ := hx
  have ⟨x1, x2, x3, x4, xQ, xT⟩ := xk
  refine V_iconst (pc := 0) C (dk k_Z_takable 0 rfl) rfl ?_
  refine V_istore_n (pc := 1) C (dk k_Z_takable 1 rfl) (by rw [hXN]; decide) ?_
  dsimp only [lst, lstL, lz, kill, Fin.val, Nat.reduceAdd]
  refine V_iconst (pc := 2) C (dk k_Z_takable 2 rfl) rfl ?_
  refine V_istore_n (pc := 3) C (dk k_Z_takable 3 rfl) (by rw [hXN]; decide) ?_
  dsimp only [lst, lstL, lz, kill, Fin.val, Nat.reduceAdd]
  refine V_eq (V_loop (fun i : Nat => i ≤ pN π) (fun i => [some (vR 128), some (vI (bs (takC π x) i)), some (vI (i : Int))]) (fun _ => σ) (fun i => pN π - i) (fun i hi ih => ?_) 0 (Nat.zero_le _)) rfl rfl rfl
  have hb := bs_256 (takC π x) (show i ≤ 8 by omega)
  refine V_iload_n (pc := 4) C (dk k_Z_takable 4 rfl) rfl ?_
  refine V_aload_n (pc := 5) C (dk k_Z_takable 5 rfl) rfl ?_
  refine V_geti (pc := 6) (ji := 1) C (dk k_Z_takable 6 rfl) fl_Z_81 kq_128 (by decide) rfl rfl ?_
  refine V_icmpge (pc := 9) C (dk k_Z_takable 7 rfl) 50 rfl (by first | exact hR _ _ | with_reducible assumption | exact ⟨by omega, by omega⟩) (by first | exact hR _ _ | with_reducible assumption | exact ⟨by omega, by omega⟩) (fun h1 => ?_) (fun h1 => ?_)
  · skip
    refine V_iload_n (pc := 50) C (dk k_Z_takable 30 rfl) rfl ?_
    refine V_iret (pc := 51) C E (dk k_Z_takable 31 rfl) ?_
    obtain rfl : i = pN π := by omega
    exact ⟨rfl, rfl⟩
  · skip
    obtain ⟨gN, gP⟩ := fT i (by omega) (by omega)
    obtain ⟨gO, gK, gU⟩ := eT i (by omega) (by omega)
    have hp8 := bs_p8 (show i < 8 by omega)
    refine V_iload_n (pc := 12) C (dk k_Z_takable 8 rfl) rfl ?_
    refine V_aload_n (pc := 13) C (dk k_Z_takable 9 rfl) rfl ?_
    refine V_getr (pc := 14) (o2 := 136) C (dk k_Z_takable 10 rfl) fl_Z_31 kq_128 (by decide) rfl (by decide) rfl ?_
    refine V_iload_n (pc := 17) C (dk k_Z_takable 11 rfl) rfl ?_
    refine V_iald (pc := 18) C (dk k_Z_takable 12 rfl) kq_136 (by decide) (by omega) (by omega) ?_
    refine V_ifne (pc := 19) C (dk k_Z_takable 13 rfl) 41 rfl (by first | exact hR _ _ | with_reducible assumption | exact ⟨by omega, by omega⟩) (fun h2 => ?_) (fun h2 => ?_)
    · skip
      refine V_iconst (pc := 41) C (dk k_Z_takable 25 rfl) rfl ?_
      refine V_ior (pc := 42) C (dk k_Z_takable 26 rfl) ⟨by omega, by omega⟩ ⟨by omega, by omega⟩ (by omega) (by omega) ?_
      refine V_istore_n (pc := 43) C (dk k_Z_takable 27 rfl) (by rw [hXN]; decide) ?_
      dsimp only [lst, lstL, lz, kill, Fin.val, Nat.reduceAdd]
      refine V_iinc (pc := 44) C (dk k_Z_takable 28 rfl) (by rw [hXN]; decide) rfl ?_
      dsimp only [lst, lstL, lz, kill, Fin.val, Nat.reduceAdd]
      refine V_goto (pc := 47) C (dk k_Z_takable 29 rfl) 4 rfl ?_
      refine V_eq (ih (i + 1) (by omega) (by omega)) ?_ rfl rfl
      rw [bs_s]
      first | (rw [if_pos (show takC π x (i : Int) = true from decide_eq_true ⟨by omega, by omega⟩), ← bs_or]; rfl) | (rw [if_neg (show ¬ takC π x (i : Int) = true from fun z => by have := of_decide_eq_true z; omega)]; show _ = [_, some (vI (bs (takC π x) i + 0)), _]; rw [Int.add_zero]; rw [show (((bs (takC π x) i).toNat ||| (0 : Int).toNat : Nat) : Int) = bs (takC π x) i from by rw [show (0 : Int).toNat = 0 from rfl, Nat.or_zero]; omega]; rfl)
    · skip
      refine V_aload_n (pc := 22) C (dk k_Z_takable 14 rfl) rfl ?_
      refine V_getr (pc := 23) (o2 := 135) C (dk k_Z_takable 15 rfl) fl_Z_28 kq_128 (by decide) rfl (by decide) rfl ?_
      refine V_iload_n (pc := 26) C (dk k_Z_takable 16 rfl) rfl ?_
      refine V_iald (pc := 27) C (dk k_Z_takable 17 rfl) kq_135 (by decide) (by omega) (by omega) ?_
      refine V_aload_n (pc := 28) C (dk k_Z_takable 18 rfl) rfl ?_
      refine V_geti (pc := 29) (ji := 3) C (dk k_Z_takable 19 rfl) fl_Z_90 kq_128 (by decide) rfl rfl ?_
      refine V_icmplt (pc := 32) C (dk k_Z_takable 20 rfl) 41 rfl (by first | exact hR _ _ | with_reducible assumption | exact ⟨by omega, by omega⟩) (by first | exact hR _ _ | with_reducible assumption | exact ⟨by omega, by omega⟩) (fun h3 => ?_) (fun h3 => ?_)
      · skip
        refine V_iconst (pc := 41) C (dk k_Z_takable 25 rfl) rfl ?_
        refine V_ior (pc := 42) C (dk k_Z_takable 26 rfl) ⟨by omega, by omega⟩ ⟨by omega, by omega⟩ (by omega) (by omega) ?_
        refine V_istore_n (pc := 43) C (dk k_Z_takable 27 rfl) (by rw [hXN]; decide) ?_
        dsimp only [lst, lstL, lz, kill, Fin.val, Nat.reduceAdd]
        refine V_iinc (pc := 44) C (dk k_Z_takable 28 rfl) (by rw [hXN]; decide) rfl ?_
        dsimp only [lst, lstL, lz, kill, Fin.val, Nat.reduceAdd]
        refine V_goto (pc := 47) C (dk k_Z_takable 29 rfl) 4 rfl ?_
        refine V_eq (ih (i + 1) (by omega) (by omega)) ?_ rfl rfl
        rw [bs_s]
        first | (rw [if_pos (show takC π x (i : Int) = true from decide_eq_true ⟨by omega, by omega⟩), ← bs_or]; rfl) | (rw [if_neg (show ¬ takC π x (i : Int) = true from fun z => by have := of_decide_eq_true z; omega)]; show _ = [_, some (vI (bs (takC π x) i + 0)), _]; rw [Int.add_zero]; rw [show (((bs (takC π x) i).toNat ||| (0 : Int).toNat : Nat) : Int) = bs (takC π x) i from by rw [show (0 : Int).toNat = 0 from rfl, Nat.or_zero]; omega]; rfl)
      · skip
        refine V_iconst (pc := 35) C (dk k_Z_takable 21 rfl) rfl ?_
        refine V_iload_n (pc := 36) C (dk k_Z_takable 22 rfl) rfl ?_
        refine V_ishl (pc := 37) C (dk k_Z_takable 23 rfl) (by omega) (by omega) (by omega) hp8.1 ?_
        refine V_goto (pc := 38) C (dk k_Z_takable 24 rfl) 42 rfl ?_
        refine V_ior (pc := 42) C (dk k_Z_takable 26 rfl) ⟨by omega, by omega⟩ ⟨by omega, by omega⟩ (by omega) (by omega) ?_
        refine V_istore_n (pc := 43) C (dk k_Z_takable 27 rfl) (by rw [hXN]; decide) ?_
        dsimp only [lst, lstL, lz, kill, Fin.val, Nat.reduceAdd]
        refine V_iinc (pc := 44) C (dk k_Z_takable 28 rfl) (by rw [hXN]; decide) rfl ?_
        dsimp only [lst, lstL, lz, kill, Fin.val, Nat.reduceAdd]
        refine V_goto (pc := 47) C (dk k_Z_takable 29 rfl) 4 rfl ?_
        refine V_eq (ih (i + 1) (by omega) (by omega)) ?_ rfl rfl
        rw [bs_s]
        first | (rw [if_pos (show takC π x (i : Int) = true from decide_eq_true ⟨by omega, by omega⟩), ← bs_or]; rfl) | (rw [if_neg (show ¬ takC π x (i : Int) = true from fun z => by have := of_decide_eq_true z; omega)]; show _ = [_, some (vI (bs (takC π x) i + 0)), _]; rw [Int.add_zero]; rw [show (((bs (takC π x) i).toNat ||| (0 : Int).toNat : Nat) : Int) = bs (takC π x) i from by rw [show (0 : Int).toNat = 0 from rfl, Nat.or_zero]; omega]; rfl)

def i_Z_sum : List (Nat × (Instr × Nat)) := [(0, (.aload_n 0, 1)), (1, (.iload_n 1, 1)), (2, (.invokevirtual 173, 3)), (5, (.ifCond .eq 23, 3)), (8, (.iload_n 2, 1)), (9, (.iconst 0, 1)), (10, (.sipush 999, 3)), (13, (.invokestatic 93, 3)), (16, (.ifCond .eq 12, 3)), (19, (.iload_n 3, 1)), (20, (.iconst 0, 1)), (21, (.iconst 1, 1)), (22, (.invokestatic 93, 3)), (25, (.ifCond .ne 5, 3)), (28, (.iconst (-1), 1)), (29, (.ireturn, 1)), (30, (.aload_n 0, 1)), (31, (.iload_n 1, 1)), (32, (.invokevirtual 177, 3)), (35, (.aload_n 0, 1)), (36, (.invokevirtual 225, 3)), (39, (.iand, 1)), (40, (.istore 4, 2)), (42, (.bipush (-4), 2)), (44, (.istore 5, 2)), (46, (.ldc 228, 2)), (48, (.istore 6, 2)), (50, (.iconst 0, 1)), (51, (.istore 7, 2)), (53, (.iload 7, 2)), (55, (.iload 4, 2)), (57, (.if_icmp .gt 68, 3)), (60, (.aload_n 0, 1)), (61, (.iload 7, 2)), (63, (.iconst 1, 1)), (64, (.invokevirtual 229, 3)), (67, (.istore 8, 2)), (69, (.iload 7, 2)), (71, (.iload 4, 2)), (73, (.iconst (-1), 1)), (74, (.ixor, 1)), (75, (.iand, 1)), (76, (.ifCond .ne 43, 3)), (79, (.iload 8, 2)), (81, (.iload_n 2, 1)), (82, (.if_icmp .lt 37, 3)), (85, (.iload 8, 2)), (87, (.aload_n 0, 1)), (88, (.getfield 87, 3)), (91, (.if_icmp .gt 28, 3)), (94, (.aload_n 0, 1)), (95, (.iload 7, 2)), (97, (.iconst 0, 1)), (98, (.invokevirtual 229, 3)), (101, (.iload 6, 2)), (103, (.if_icmp .ge 16, 3)), (106, (.iload 7, 2)), (108, (.istore 5, 2)), (110, (.aload_n 0, 1)), (111, (.iload 7, 2)), (113, (.iconst 0, 1)), (114, (.invokevirtual 229, 3)), (117, (.istore 6, 2)), (119, (.iinc 7 1, 3)), (122, (.goto (-69), 3)), (125, (.iload 5, 2)), (127, (.bipush (-4), 2)), (129, (.if_icmp .eq 7, 3)), (132, (.iload_n 3, 1)), (133, (.ifCond .ne 8, 3)), (136, (.iload 5, 2)), (138, (.goto 5, 3)), (141, (.iload 6, 2)), (143, (.ireturn, 1))]
theorem k_Z_sum : i_Z_sum.all (fun q => decide (decode b_Z_sum q.1 = .ok q.2)) = true := by decide +kernel

set_option maxHeartbeats 1000000 in
set_option maxRecDepth 20000 in
theorem c_Z_sum (l : Launch) (G : GE) (σ : Wd) (π : PL) (x : ST) (us ks : List ST) (lk : List (Int × (Int × Int))) (tx : List Int) (j : Int) (hC : MR σ π x us ks lk tx) (hV : VK π x us ks j) (hj : j ≤ 100) (p m k : Int) (hp : inR p) (hm : inR m) (hk : inR k) : Ct l G y_Z_sum b_Z_sum 9 (some (.int)) 3 66 [vR 128, vI p, vI m, vI k] σ (Dt (some (vI (o_sum π x p m k))) σ) := by
  refine Ct.of cm_Z_sum (Nat.le_of_ble_eq_true rfl) ?_
  intro X hXl hXG hXN hRm C E
  subst hXl; subst hXG
  have ⟨hp_1, hp_2⟩ := hp
  have ⟨hm_1, hm_2⟩ := hm
  have ⟨hk_1, hk_2⟩ := hk
  show V X 0 [some (vR 128), some (vI p), some (vI m), some (vI k), none, none, none, none, none] [] σ
  refine V_R (fun hR => ?_)
  obtain ⟨hπ, hx, hU, hK, hl, hT⟩ := id hC
  obtain ⟨ok, xk, usk, ksk, ks2⟩ := id hV
  have hπ0 := hπ
  obtain ⟨e0, e1, e2, e3, eT, eX⟩ := hπ
  have ⟨k1, k2, k3, k4, k5, k6, kT, kX⟩ := ok
  have hx0 := hx
  obtain ⟨f0, f1, fQ, fT⟩ := hx
  have ⟨x1, x2, x3, x4, xQ, xT⟩ := xk
  refine V_aload_n (pc := 0) C (dk k_Z_sum 0 rfl) rfl ?_
  refine V_iload_n (pc := 1) C (dk k_Z_sum 1 rfl) rfl ?_
  refine V_callV (pc := 2) C (dk k_Z_sum 2 rfl) lk_Z_173 cm_Z_isPerson vm_Z_isPerson (c_Z_isPerson _ _ _ π p hπ0 ok hp) kq_128 rfl rfl rfl (Nat.le_of_ble_eq_true rfl) (Rm.mono hRm (by decide) (by decide)) ?_
  refine V_ifeqB (pc := 5) C (dk k_Z_sum 3 rfl) 28 rfl (fun h1 => ?_) (fun h1 => ?_)
  · skip
    refine V_iconst (pc := 28) C (dk k_Z_sum 14 rfl) rfl ?_
    refine V_iret (pc := 29) C E (dk k_Z_sum 15 rfl) ?_
    exact ⟨by unfold o_sum; rw [if_neg (by omega)], rfl⟩
  · skip
    refine V_iload_n (pc := 8) C (dk k_Z_sum 4 rfl) rfl ?_
    refine V_iconst (pc := 9) C (dk k_Z_sum 5 rfl) rfl ?_
    refine V_sipush (pc := 10) (n' := 999) C (dk k_Z_sum 6 rfl) rfl ?_
    refine V_callS (pc := 13) C (dk k_Z_sum 7 rfl) lk_Z_93 cm_Z_in sm_Z_in (c_Z_in _ _ _ m 0 999 hm ⟨by decide, by decide⟩ ⟨by decide, by decide⟩) rfl rfl (Nat.le_of_ble_eq_true rfl) (Rm.mono hRm (by decide) (by decide)) ?_
    refine V_ifeqB (pc := 16) C (dk k_Z_sum 8 rfl) 28 rfl (fun h2 => ?_) (fun h2 => ?_)
    · skip
      refine V_iconst (pc := 28) C (dk k_Z_sum 14 rfl) rfl ?_
      refine V_iret (pc := 29) C E (dk k_Z_sum 15 rfl) ?_
      exact ⟨by unfold o_sum; rw [if_neg (by omega)], rfl⟩
    · skip
      refine V_iload_n (pc := 19) C (dk k_Z_sum 9 rfl) rfl ?_
      refine V_iconst (pc := 20) C (dk k_Z_sum 10 rfl) rfl ?_
      refine V_iconst (pc := 21) C (dk k_Z_sum 11 rfl) rfl ?_
      refine V_callS (pc := 22) C (dk k_Z_sum 12 rfl) lk_Z_93 cm_Z_in sm_Z_in (c_Z_in _ _ _ k 0 1 hk ⟨by decide, by decide⟩ ⟨by decide, by decide⟩) rfl rfl (Nat.le_of_ble_eq_true rfl) (Rm.mono hRm (by decide) (by decide)) ?_
      refine V_ifneB (pc := 25) C (dk k_Z_sum 13 rfl) 30 rfl (fun h3 => ?_) (fun h3 => ?_)
      · skip
        refine V_aload_n (pc := 30) C (dk k_Z_sum 16 rfl) rfl ?_
        refine V_iload_n (pc := 31) C (dk k_Z_sum 17 rfl) rfl ?_
        refine V_callV (pc := 32) C (dk k_Z_sum 18 rfl) lk_Z_177 cm_Z_thoseWith vm_Z_thoseWith (c_Z_thoseWith _ _ _ π x j hπ0 ok hx0 xk (by omega) p hp) kq_128 rfl rfl rfl (Nat.le_of_ble_eq_true rfl) (Rm.mono hRm (by decide) (by decide)) ?_
        refine V_aload_n (pc := 35) C (dk k_Z_sum 19 rfl) rfl ?_
        refine V_callV (pc := 36) C (dk k_Z_sum 20 rfl) lk_Z_225 cm_Z_takable vm_Z_takable (c_Z_takable _ _ _ π x j hπ0 ok hx0 xk (by omega)) kq_128 rfl rfl rfl (Nat.le_of_ble_eq_true rfl) (Rm.mono hRm (by decide) (by decide)) ?_
        have hb1 := bs_256 (fun t => decide (pO π t = p ∧ sP x t = 0)) (show pN π ≤ 8 by omega)
        have hb2 := bs_256 (takC π x) (show pN π ≤ 8 by omega)
        have hb3 := bs_256 (sumC π x p) (show pN π ≤ 8 by omega)
        have hb4 := bs_lt (sumC π x p) (pN π)
        refine V_iand (pc := 39) C (dk k_Z_sum 21 rfl) ⟨by omega, by omega⟩ ⟨by omega, by omega⟩ (by omega) (by omega) ?_
        rw [bs_sumC]
        obtain ⟨al, hal⟩ : ∃ al, al = (bs (sumC π x p) (pN π)).toNat := ⟨_, rfl⟩
        rw [← hal] at hb4 ⊢
        have hal2 : al < 256 := by omega
        refine V_istore (pc := 40) C (dk k_Z_sum 22 rfl) (by rw [hXN]; decide) ?_
        dsimp only [lst, lstL, lz, kill, Fin.val, Nat.reduceAdd]
        refine V_bipush (pc := 42) (n' := (-4)) C (dk k_Z_sum 23 rfl) rfl ?_
        refine V_istore (pc := 44) C (dk k_Z_sum 24 rfl) (by rw [hXN]; decide) ?_
        dsimp only [lst, lstL, lz, kill, Fin.val, Nat.reduceAdd]
        refine V_ldc (pc := 46) (n' := 1048576) C (dk k_Z_sum 25 rfl) kc_Z_228 rfl ?_
        refine V_istore (pc := 48) C (dk k_Z_sum 26 rfl) (by rw [hXN]; decide) ?_
        dsimp only [lst, lstL, lz, kill, Fin.val, Nat.reduceAdd]
        refine V_iconst (pc := 50) C (dk k_Z_sum 27 rfl) rfl ?_
        refine V_istore (pc := 51) C (dk k_Z_sum 28 rfl) (by rw [hXN]; decide) ?_
        dsimp only [lst, lstL, lz, kill, Fin.val, Nat.reduceAdd]
        refine V_eq (V_loop (fun i : Nat => i ≤ al + 1 ∧ (-1000000 ≤ sl (fnd (okset al (ssum (prc π x) (pN π)) m (sM x)) (ssum (fun t => -(pU π t)) (pN π)) i) ∧ sl (fnd (okset al (ssum (prc π x) (pN π)) m (sM x)) (ssum (fun t => -(pU π t)) (pN π)) i) ≤ 1048576) ∧ -4 ≤ sb (fnd (okset al (ssum (prc π x) (pN π)) m (sM x)) (ssum (fun t => -(pU π t)) (pN π)) i) ∧ sb (fnd (okset al (ssum (prc π x) (pN π)) m (sM x)) (ssum (fun t => -(pU π t)) (pN π)) i) ≤ 1000) (fun i => [some (vR 128), some (vI p), some (vI m), some (vI k), some (vI (al : Int)), some (vI (sb (fnd (okset al (ssum (prc π x) (pN π)) m (sM x)) (ssum (fun t => -(pU π t)) (pN π)) i))), some (vI (sl (fnd (okset al (ssum (prc π x) (pN π)) m (sM x)) (ssum (fun t => -(pU π t)) (pN π)) i))), some (vI (i : Int)), none]) (fun _ => σ) (fun i => al + 1 - i) (fun i hi ih => ?_) 0 ⟨Nat.zero_le _, ⟨(by decide : (-1000000 : Int) ≤ 1048576), Int.le_refl _⟩, Int.le_refl _, (by decide : (-4 : Int) ≤ 1000)⟩) rfl rfl rfl
        obtain ⟨hi0, ⟨s0, s1⟩, s2, s3⟩ := hi
        refine V_iload (pc := 53) C (dk k_Z_sum 29 rfl) rfl ?_
        refine V_iload (pc := 55) C (dk k_Z_sum 30 rfl) rfl ?_
        refine V_icmpgt (pc := 57) C (dk k_Z_sum 31 rfl) 125 rfl (by first | exact hR _ _ | with_reducible assumption | exact ⟨by omega, by omega⟩) (by first | exact hR _ _ | with_reducible assumption | exact ⟨by omega, by omega⟩) (fun h4 => ?_) (fun h4 => ?_)
        · skip
          obtain rfl : i = al + 1 := by omega
          have hS : sumF π x p m = (fnd (okset al (ssum (prc π x) (pN π)) m (sM x)) (ssum (fun t => -(pU π t)) (pN π)) (al + 1)) := by rw [hal]; exact fnd_ext _ (by rw [← hal]; omega) (fun b h1 h2 => okset_gt (by omega))
          have ho : o_sum π x p m k = if sb (fnd (okset al (ssum (prc π x) (pN π)) m (sM x)) (ssum (fun t => -(pU π t)) (pN π)) (al + 1)) = -4 ∨ k = 0 then sb (fnd (okset al (ssum (prc π x) (pN π)) m (sM x)) (ssum (fun t => -(pU π t)) (pN π)) (al + 1)) else sl (fnd (okset al (ssum (prc π x) (pN π)) m (sM x)) (ssum (fun t => -(pU π t)) (pN π)) (al + 1)) := by unfold o_sum; rw [if_pos (by omega), hS]; exact sum_end _ k
          refine V_iload (pc := 125) C (dk k_Z_sum 65 rfl) rfl ?_
          refine V_bipush (pc := 127) (n' := (-4)) C (dk k_Z_sum 66 rfl) rfl ?_
          refine V_icmpeq (pc := 129) C (dk k_Z_sum 67 rfl) 136 rfl (by first | exact hR _ _ | with_reducible assumption | exact ⟨by omega, by omega⟩) (by first | exact hR _ _ | with_reducible assumption | exact ⟨by omega, by omega⟩) (fun h5 => ?_) (fun h5 => ?_)
          · skip
            refine V_iload (pc := 136) C (dk k_Z_sum 70 rfl) rfl ?_
            refine V_goto (pc := 138) C (dk k_Z_sum 71 rfl) 143 rfl ?_
            refine V_iret (pc := 143) C E (dk k_Z_sum 73 rfl) ?_
            refine ⟨?_, rfl⟩
            rw [ho]
            first | (rw [if_pos (by omega)]; done) | (rw [if_neg (by omega)]; done)
          · skip
            refine V_iload_n (pc := 132) C (dk k_Z_sum 68 rfl) rfl ?_
            refine V_ifne (pc := 133) C (dk k_Z_sum 69 rfl) 141 rfl (by first | exact hR _ _ | with_reducible assumption | exact ⟨by omega, by omega⟩) (fun h6 => ?_) (fun h6 => ?_)
            · skip
              refine V_iload (pc := 141) C (dk k_Z_sum 72 rfl) rfl ?_
              refine V_iret (pc := 143) C E (dk k_Z_sum 73 rfl) ?_
              refine ⟨?_, rfl⟩
              rw [ho]
              first | (rw [if_pos (by omega)]; done) | (rw [if_neg (by omega)]; done)
            · skip
              refine V_iload (pc := 136) C (dk k_Z_sum 70 rfl) rfl ?_
              refine V_goto (pc := 138) C (dk k_Z_sum 71 rfl) 143 rfl ?_
              refine V_iret (pc := 143) C E (dk k_Z_sum 73 rfl) ?_
              refine ⟨?_, rfl⟩
              rw [ho]
              first | (rw [if_pos (by omega)]; done) | (rw [if_neg (by omega)]; done)
        · skip
          have an : (i &&& al) ≤ i := Nat.and_le_left
          have ⟨c1, c2⟩ := ssum_0 (prc π x) 1000 (by omega) (pN π) i (fun u a d => by have := prc_b ok xk a d; omega)
          have ⟨c3, c4⟩ := ssum_0 (pU π) 1000 (by omega) (pN π) i (fun u a d => by obtain ⟨-, -, -, -, q1, q2⟩ := kT u a d; omega)
          have hz := fnd_sb (ok := (okset al (ssum (prc π x) (pN π)) m (sM x))) (W := (ssum (fun t => -(pU π t)) (pN π))) (i := i) (by rw [ssum_neg]; omega)
          rw [okset_iff, ssum_neg, Int.neg_neg] at hz
          refine V_aload_n (pc := 60) C (dk k_Z_sum 32 rfl) rfl ?_
          refine V_iload (pc := 61) C (dk k_Z_sum 33 rfl) rfl ?_
          refine V_iconst (pc := 63) C (dk k_Z_sum 34 rfl) rfl ?_
          refine V_callV (pc := 64) C (dk k_Z_sum 35 rfl) lk_Z_229 cm_Z_sumOf vm_Z_sumOf (c_Z_sumOf _ _ _ π x j i 1 (prc π x) hπ0 ok hx0 xk (by omega) (by omega) (Or.inr ⟨rfl, rfl⟩)) kq_128 rfl rfl rfl (Nat.le_of_ble_eq_true rfl) (Rm.mono hRm (by decide) (by decide)) ?_
          refine V_istore (pc := 67) C (dk k_Z_sum 36 rfl) (by rw [hXN]; decide) ?_
          dsimp only [lst, lstL, lz, kill, Fin.val, Nat.reduceAdd]
          refine V_iload (pc := 69) C (dk k_Z_sum 37 rfl) rfl ?_
          refine V_iload (pc := 71) C (dk k_Z_sum 38 rfl) rfl ?_
          refine V_iconst (pc := 73) C (dk k_Z_sum 39 rfl) rfl ?_
          refine V_ixm1 (pc := 74) C (dk k_Z_sum 40 rfl) ?_
          refine V_iandn (pc := 75) C (dk k_Z_sum 41 rfl) ⟨by omega, by omega⟩ ⟨by omega, by omega⟩ (by omega) (by omega) ?_
          rw [Int.toNat_natCast, Int.toNat_natCast]
          refine V_ifne (pc := 76) C (dk k_Z_sum 42 rfl) 119 rfl (by first | exact hR _ _ | with_reducible assumption | exact ⟨by omega, by omega⟩) (fun h7 => ?_) (fun h7 => ?_)
          · skip
            refine V_iinc (pc := 119) C (dk k_Z_sum 63 rfl) (by rw [hXN]; decide) rfl ?_
            dsimp only [lst, lstL, lz, kill, Fin.val, Nat.reduceAdd]
            refine V_goto (pc := 122) C (dk k_Z_sum 64 rfl) 53 rfl ?_
            refine V_fg 8 ?_
            dsimp only [fg]
            first | (have e := hz.2 (fun q => by omega); refine V_eq (ih (i + 1) ⟨by omega, by rw [e]; exact ⟨s0, s1⟩, by rw [e]; exact ⟨s2, s3⟩⟩ (by omega)) ?_ rfl rfl; rw [e]; rfl) | (have e := hz.1 ⟨⟨by omega, by omega, by omega⟩, by omega⟩; refine V_eq (ih (i + 1) ⟨by omega, by rw [e]; show -1000000 ≤ -(-(ssum (pU π) (pN π) i)) ∧ -(-(ssum (pU π) (pN π) i)) ≤ 1048576; omega, by rw [e]; show -4 ≤ (i : Int) ∧ (i : Int) ≤ 1000; omega⟩ (by omega)) ?_ rfl rfl; rw [e]; show _ = [_, _, _, _, _, some (vI (i : Int)), some (vI (-(-(ssum (pU π) (pN π) i)))), _, _]; rw [Int.neg_neg]; rfl)
          · skip
            refine V_iload (pc := 79) C (dk k_Z_sum 43 rfl) rfl ?_
            refine V_iload_n (pc := 81) C (dk k_Z_sum 44 rfl) rfl ?_
            refine V_icmplt (pc := 82) C (dk k_Z_sum 45 rfl) 119 rfl (by first | exact hR _ _ | with_reducible assumption | exact ⟨by omega, by omega⟩) (by first | exact hR _ _ | with_reducible assumption | exact ⟨by omega, by omega⟩) (fun h8 => ?_) (fun h8 => ?_)
            · skip
              refine V_iinc (pc := 119) C (dk k_Z_sum 63 rfl) (by rw [hXN]; decide) rfl ?_
              dsimp only [lst, lstL, lz, kill, Fin.val, Nat.reduceAdd]
              refine V_goto (pc := 122) C (dk k_Z_sum 64 rfl) 53 rfl ?_
              refine V_fg 8 ?_
              dsimp only [fg]
              first | (have e := hz.2 (fun q => by omega); refine V_eq (ih (i + 1) ⟨by omega, by rw [e]; exact ⟨s0, s1⟩, by rw [e]; exact ⟨s2, s3⟩⟩ (by omega)) ?_ rfl rfl; rw [e]; rfl) | (have e := hz.1 ⟨⟨by omega, by omega, by omega⟩, by omega⟩; refine V_eq (ih (i + 1) ⟨by omega, by rw [e]; show -1000000 ≤ -(-(ssum (pU π) (pN π) i)) ∧ -(-(ssum (pU π) (pN π) i)) ≤ 1048576; omega, by rw [e]; show -4 ≤ (i : Int) ∧ (i : Int) ≤ 1000; omega⟩ (by omega)) ?_ rfl rfl; rw [e]; show _ = [_, _, _, _, _, some (vI (i : Int)), some (vI (-(-(ssum (pU π) (pN π) i)))), _, _]; rw [Int.neg_neg]; rfl)
            · skip
              refine V_iload (pc := 85) C (dk k_Z_sum 46 rfl) rfl ?_
              refine V_aload_n (pc := 87) C (dk k_Z_sum 47 rfl) rfl ?_
              refine V_geti (pc := 88) (ji := 9) C (dk k_Z_sum 48 rfl) fl_Z_87 kq_128 (by decide) rfl rfl ?_
              rw [f1]
              refine V_icmpgt (pc := 91) C (dk k_Z_sum 49 rfl) 119 rfl (by first | exact hR _ _ | with_reducible assumption | exact ⟨by omega, by omega⟩) (by first | exact hR _ _ | with_reducible assumption | exact ⟨by omega, by omega⟩) (fun h9 => ?_) (fun h9 => ?_)
              · skip
                refine V_iinc (pc := 119) C (dk k_Z_sum 63 rfl) (by rw [hXN]; decide) rfl ?_
                dsimp only [lst, lstL, lz, kill, Fin.val, Nat.reduceAdd]
                refine V_goto (pc := 122) C (dk k_Z_sum 64 rfl) 53 rfl ?_
                refine V_fg 8 ?_
                dsimp only [fg]
                first | (have e := hz.2 (fun q => by omega); refine V_eq (ih (i + 1) ⟨by omega, by rw [e]; exact ⟨s0, s1⟩, by rw [e]; exact ⟨s2, s3⟩⟩ (by omega)) ?_ rfl rfl; rw [e]; rfl) | (have e := hz.1 ⟨⟨by omega, by omega, by omega⟩, by omega⟩; refine V_eq (ih (i + 1) ⟨by omega, by rw [e]; show -1000000 ≤ -(-(ssum (pU π) (pN π) i)) ∧ -(-(ssum (pU π) (pN π) i)) ≤ 1048576; omega, by rw [e]; show -4 ≤ (i : Int) ∧ (i : Int) ≤ 1000; omega⟩ (by omega)) ?_ rfl rfl; rw [e]; show _ = [_, _, _, _, _, some (vI (i : Int)), some (vI (-(-(ssum (pU π) (pN π) i)))), _, _]; rw [Int.neg_neg]; rfl)
              · skip
                refine V_aload_n (pc := 94) C (dk k_Z_sum 50 rfl) rfl ?_
                refine V_iload (pc := 95) C (dk k_Z_sum 51 rfl) rfl ?_
                refine V_iconst (pc := 97) C (dk k_Z_sum 52 rfl) rfl ?_
                refine V_callV (pc := 98) C (dk k_Z_sum 53 rfl) lk_Z_229 cm_Z_sumOf vm_Z_sumOf (c_Z_sumOf _ _ _ π x j i 0 (pU π) hπ0 ok hx0 xk (by omega) (by omega) (Or.inl ⟨rfl, rfl⟩)) kq_128 rfl rfl rfl (Nat.le_of_ble_eq_true rfl) (Rm.mono hRm (by decide) (by decide)) ?_
                refine V_iload (pc := 101) C (dk k_Z_sum 54 rfl) rfl ?_
                refine V_icmpge (pc := 103) C (dk k_Z_sum 55 rfl) 119 rfl (by first | exact hR _ _ | with_reducible assumption | exact ⟨by omega, by omega⟩) (by first | exact hR _ _ | with_reducible assumption | exact ⟨by omega, by omega⟩) (fun h10 => ?_) (fun h10 => ?_)
                · skip
                  refine V_iinc (pc := 119) C (dk k_Z_sum 63 rfl) (by rw [hXN]; decide) rfl ?_
                  dsimp only [lst, lstL, lz, kill, Fin.val, Nat.reduceAdd]
                  refine V_goto (pc := 122) C (dk k_Z_sum 64 rfl) 53 rfl ?_
                  refine V_fg 8 ?_
                  dsimp only [fg]
                  first | (have e := hz.2 (fun q => by omega); refine V_eq (ih (i + 1) ⟨by omega, by rw [e]; exact ⟨s0, s1⟩, by rw [e]; exact ⟨s2, s3⟩⟩ (by omega)) ?_ rfl rfl; rw [e]; rfl) | (have e := hz.1 ⟨⟨by omega, by omega, by omega⟩, by omega⟩; refine V_eq (ih (i + 1) ⟨by omega, by rw [e]; show -1000000 ≤ -(-(ssum (pU π) (pN π) i)) ∧ -(-(ssum (pU π) (pN π) i)) ≤ 1048576; omega, by rw [e]; show -4 ≤ (i : Int) ∧ (i : Int) ≤ 1000; omega⟩ (by omega)) ?_ rfl rfl; rw [e]; show _ = [_, _, _, _, _, some (vI (i : Int)), some (vI (-(-(ssum (pU π) (pN π) i)))), _, _]; rw [Int.neg_neg]; rfl)
                · skip
                  refine V_iload (pc := 106) C (dk k_Z_sum 56 rfl) rfl ?_
                  refine V_istore (pc := 108) C (dk k_Z_sum 57 rfl) (by rw [hXN]; decide) ?_
                  dsimp only [lst, lstL, lz, kill, Fin.val, Nat.reduceAdd]
                  refine V_aload_n (pc := 110) C (dk k_Z_sum 58 rfl) rfl ?_
                  refine V_iload (pc := 111) C (dk k_Z_sum 59 rfl) rfl ?_
                  refine V_iconst (pc := 113) C (dk k_Z_sum 60 rfl) rfl ?_
                  refine V_callV (pc := 114) C (dk k_Z_sum 61 rfl) lk_Z_229 cm_Z_sumOf vm_Z_sumOf (c_Z_sumOf _ _ _ π x j i 0 (pU π) hπ0 ok hx0 xk (by omega) (by omega) (Or.inl ⟨rfl, rfl⟩)) kq_128 rfl rfl rfl (Nat.le_of_ble_eq_true rfl) (Rm.mono hRm (by decide) (by decide)) ?_
                  refine V_istore (pc := 117) C (dk k_Z_sum 62 rfl) (by rw [hXN]; decide) ?_
                  dsimp only [lst, lstL, lz, kill, Fin.val, Nat.reduceAdd]
                  refine V_iinc (pc := 119) C (dk k_Z_sum 63 rfl) (by rw [hXN]; decide) rfl ?_
                  dsimp only [lst, lstL, lz, kill, Fin.val, Nat.reduceAdd]
                  refine V_goto (pc := 122) C (dk k_Z_sum 64 rfl) 53 rfl ?_
                  refine V_fg 8 ?_
                  dsimp only [fg]
                  first | (have e := hz.2 (fun q => by omega); refine V_eq (ih (i + 1) ⟨by omega, by rw [e]; exact ⟨s0, s1⟩, by rw [e]; exact ⟨s2, s3⟩⟩ (by omega)) ?_ rfl rfl; rw [e]; rfl) | (have e := hz.1 ⟨⟨by omega, by omega, by omega⟩, by omega⟩; refine V_eq (ih (i + 1) ⟨by omega, by rw [e]; show -1000000 ≤ -(-(ssum (pU π) (pN π) i)) ∧ -(-(ssum (pU π) (pN π) i)) ≤ 1048576; omega, by rw [e]; show -4 ≤ (i : Int) ∧ (i : Int) ≤ 1000; omega⟩ (by omega)) ?_ rfl rfl; rw [e]; show _ = [_, _, _, _, _, some (vI (i : Int)), some (vI (-(-(ssum (pU π) (pN π) i)))), _, _]; rw [Int.neg_neg]; rfl)
      · skip
        refine V_iconst (pc := 28) C (dk k_Z_sum 14 rfl) rfl ?_
        refine V_iret (pc := 29) C E (dk k_Z_sum 15 rfl) ?_
        exact ⟨by unfold o_sum; rw [if_neg (by omega)], rfl⟩

def i_Z_take : List (Nat × (Instr × Nat)) := [(0, (.iload_n 1, 1)), (1, (.iconst 0, 1)), (2, (.bipush 20, 2)), (4, (.invokestatic 93, 3)), (7, (.ifCond .eq 12, 3)), (10, (.iload_n 2, 1)), (11, (.iconst 0, 1)), (12, (.iconst 1, 1)), (13, (.invokestatic 93, 3)), (16, (.ifCond .ne 5, 3)), (19, (.iconst (-1), 1)), (20, (.ireturn, 1)), (21, (.aload_n 0, 1)), (22, (.invokevirtual 225, 3)), (25, (.istore_n 3, 1)), (26, (.iconst 0, 1)), (27, (.istore 4, 2)), (29, (.iconst (-1), 1)), (30, (.istore 5, 2)), (32, (.iconst 0, 1)), (33, (.istore 6, 2)), (35, (.iload 6, 2)), (37, (.iload_n 3, 1)), (38, (.if_icmp .gt 129, 3)), (41, (.iload 6, 2)), (43, (.iload_n 3, 1)), (44, (.iconst (-1), 1)), (45, (.ixor, 1)), (46, (.iand, 1)), (47, (.ifCond .ne 114, 3)), (50, (.aload_n 0, 1)), (51, (.iload 6, 2)), (53, (.iconst 1, 1)), (54, (.invokevirtual 229, 3)), (57, (.aload_n 0, 1)), (58, (.getfield 87, 3)), (61, (.if_icmp .gt 100, 3)), (64, (.aload_n 0, 1)), (65, (.invokevirtual 212, 3)), (68, (.iconst 0, 1)), (69, (.istore 7, 2)), (71, (.iload 7, 2)), (73, (.aload_n 0, 1)), (74, (.getfield 81, 3)), (77, (.if_icmp .ge 37, 3)), (80, (.aload_n 0, 1)), (81, (.getfield 31, 3)), (84, (.iload 7, 2)), (86, (.iload 6, 2)), (88, (.iload 7, 2)), (90, (.invokestatic 221, 3)), (93, (.ifCond .eq 7, 3)), (96, (.iconst 1, 1)), (97, (.goto 10, 3)), (100, (.aload_n 0, 1)), (101, (.getfield 31, 3)), (104, (.iload 7, 2)), (106, (.iaload, 1)), (107, (.iastore, 1)), (108, (.iinc 7 1, 3)), (111, (.goto (-40), 3)), (114, (.aload_n 0, 1)), (115, (.iload_n 1, 1)), (116, (.invokevirtual 206, 3)), (119, (.aload_n 0, 1)), (120, (.invokevirtual 218, 3)), (123, (.istore 7, 2)), (125, (.aload_n 0, 1)), (126, (.invokevirtual 215, 3)), (129, (.iload 7, 2)), (131, (.iload 5, 2)), (133, (.if_icmp .le 8, 3)), (136, (.iload 6, 2)), (138, (.goto 5, 3)), (141, (.iload 4, 2)), (143, (.istore 4, 2)), (145, (.iload 7, 2)), (147, (.iload 5, 2)), (149, (.if_icmp .le 8, 3)), (152, (.iload 7, 2)), (154, (.goto 5, 3)), (157, (.iload 5, 2)), (159, (.istore 5, 2)), (161, (.iinc 6 1, 3)), (164, (.goto (-129), 3)), (167, (.iload_n 2, 1)), (168, (.ifCond .ne 8, 3)), (171, (.iload 4, 2)), (173, (.goto 5, 3)), (176, (.iload 5, 2)), (178, (.ireturn, 1))]
theorem k_Z_take : i_Z_take.all (fun q => decide (decode b_Z_take q.1 = .ok q.2)) = true := by decide +kernel

set_option maxHeartbeats 1000000 in
set_option maxRecDepth 20000 in
theorem c_Z_take (l : Launch) (G : GE) (σ : Wd) (π : PL) (x : ST) (us ks : List ST) (lk : List (Int × (Int × Int))) (tx : List Int) (j : Int) (hC : MR σ π x us ks lk tx) (hV : VK π x us ks j) (hj : j ≤ 100) (n k : Int) (hn : inR n) (hk : inR k) : Ct l G y_Z_take b_Z_take 8 (some (.int)) 3 66 [vR 128, vI n, vI k] σ (Rt (some (vI (o_take π x n k))) (fun σ' => MR σ' π x us ks lk tx ∧ Fm σ σ')) := by
  refine Ct.of cm_Z_take (Nat.le_of_ble_eq_true rfl) ?_
  intro X hXl hXG hXN hRm C E
  subst hXl; subst hXG
  have ⟨hn_1, hn_2⟩ := hn
  have ⟨hk_1, hk_2⟩ := hk
  show V X 0 [some (vR 128), some (vI n), some (vI k), none, none, none, none, none] [] σ
  refine V_R (fun hR => ?_)
  obtain ⟨hπ, hx, hU, hK, hl, hT⟩ := id hC
  obtain ⟨ok, xk, usk, ksk, ks2⟩ := id hV
  have hπ0 := hπ
  obtain ⟨e0, e1, e2, e3, eT, eX⟩ := hπ
  have ⟨k1, k2, k3, k4, k5, k6, kT, kX⟩ := ok
  have hx0 := hx
  obtain ⟨f0, f1, fQ, fT⟩ := hx
  have ⟨x1, x2, x3, x4, xQ, xT⟩ := xk
  refine V_iload_n (pc := 0) C (dk k_Z_take 0 rfl) rfl ?_
  refine V_iconst (pc := 1) C (dk k_Z_take 1 rfl) rfl ?_
  refine V_bipush (pc := 2) (n' := 20) C (dk k_Z_take 2 rfl) rfl ?_
  refine V_callS (pc := 4) C (dk k_Z_take 3 rfl) lk_Z_93 cm_Z_in sm_Z_in (c_Z_in _ _ _ n 0 20 hn ⟨by decide, by decide⟩ ⟨by decide, by decide⟩) rfl rfl (Nat.le_of_ble_eq_true rfl) (Rm.mono hRm (by decide) (by decide)) ?_
  refine V_ifeqB (pc := 7) C (dk k_Z_take 4 rfl) 19 rfl (fun h1 => ?_) (fun h1 => ?_)
  · skip
    refine V_iconst (pc := 19) C (dk k_Z_take 10 rfl) rfl ?_
    refine V_iret (pc := 20) C E (dk k_Z_take 11 rfl) ?_
    rw [show o_take π x n k = -1 from if_neg (by omega)]
    exact ⟨rfl, hC, Fm.rf σ⟩
  · skip
    refine V_iload_n (pc := 10) C (dk k_Z_take 5 rfl) rfl ?_
    refine V_iconst (pc := 11) C (dk k_Z_take 6 rfl) rfl ?_
    refine V_iconst (pc := 12) C (dk k_Z_take 7 rfl) rfl ?_
    refine V_callS (pc := 13) C (dk k_Z_take 8 rfl) lk_Z_93 cm_Z_in sm_Z_in (c_Z_in _ _ _ k 0 1 hk ⟨by decide, by decide⟩ ⟨by decide, by decide⟩) rfl rfl (Nat.le_of_ble_eq_true rfl) (Rm.mono hRm (by decide) (by decide)) ?_
    refine V_ifneB (pc := 16) C (dk k_Z_take 9 rfl) 21 rfl (fun h2 => ?_) (fun h2 => ?_)
    · skip
      refine V_aload_n (pc := 21) C (dk k_Z_take 12 rfl) rfl ?_
      refine V_callV (pc := 22) C (dk k_Z_take 13 rfl) lk_Z_225 cm_Z_takable vm_Z_takable (c_Z_takable _ _ _ π x j hπ0 ok hx0 xk (by omega)) kq_128 rfl rfl rfl (Nat.le_of_ble_eq_true rfl) (Rm.mono hRm (by decide) (by decide)) ?_
      have hb2 := bs_256 (takC π x) (show pN π ≤ 8 by omega)
      have hb4 := bs_lt (takC π x) (pN π)
      obtain ⟨al, hal⟩ : ∃ al, al = (bs (takC π x) (pN π)).toNat := ⟨_, rfl⟩
      rw [← hal] at hb4
      have hal3 : bs (takC π x) (pN π) = (al : Int) := by omega
      rw [hal3]
      have hal2 : al < 256 := by omega
      have ⟨th0, th1⟩ := there_b (n := n) xk (pN π) (Nat.le_refl _)
      refine V_istore_n (pc := 25) C (dk k_Z_take 14 rfl) (by rw [hXN]; decide) ?_
      dsimp only [lst, lstL, lz, kill, Fin.val, Nat.reduceAdd]
      refine V_iconst (pc := 26) C (dk k_Z_take 15 rfl) rfl ?_
      refine V_istore (pc := 27) C (dk k_Z_take 16 rfl) (by rw [hXN]; decide) ?_
      dsimp only [lst, lstL, lz, kill, Fin.val, Nat.reduceAdd]
      refine V_iconst (pc := 29) C (dk k_Z_take 17 rfl) rfl ?_
      refine V_istore (pc := 30) C (dk k_Z_take 18 rfl) (by rw [hXN]; decide) ?_
      dsimp only [lst, lstL, lz, kill, Fin.val, Nat.reduceAdd]
      refine V_iconst (pc := 32) C (dk k_Z_take 19 rfl) rfl ?_
      refine V_istore (pc := 33) C (dk k_Z_take 20 rfl) (by rw [hXN]; decide) ?_
      dsimp only [lst, lstL, lz, kill, Fin.val, Nat.reduceAdd]
      refine V_eq (V_loop (fun q : Nat × Wd => q.1 ≤ al + 1 ∧ (-1 ≤ tm (there π x n (pN π)) (fnd (okset al (ssum (prc π x) (pN π)) 0 (sM x)) (ssum (come π x n) (pN π)) q.1) ∧ tm (there π x n (pN π)) (fnd (okset al (ssum (prc π x) (pN π)) 0 (sM x)) (ssum (come π x n) (pN π)) q.1) ≤ 1000000) ∧ (0 ≤ tb (fnd (okset al (ssum (prc π x) (pN π)) 0 (sM x)) (ssum (come π x n) (pN π)) q.1) ∧ tb (fnd (okset al (ssum (prc π x) (pN π)) 0 (sM x)) (ssum (come π x n) (pN π)) q.1) ≤ 1000) ∧ StM q.2 π x ∧ FrX σ q.2) (fun q => [some (vR 128), some (vI n), some (vI k), some (vI (al : Int)), some (vI (tb (fnd (okset al (ssum (prc π x) (pN π)) 0 (sM x)) (ssum (come π x n) (pN π)) q.1))), some (vI (tm (there π x n (pN π)) (fnd (okset al (ssum (prc π x) (pN π)) 0 (sM x)) (ssum (come π x n) (pN π)) q.1))), some (vI (q.1 : Int)), none]) (fun q => q.2) (fun q => al + 1 - q.1) (fun q hi ih => ?_) (0, σ) ⟨Nat.zero_le _, ⟨Int.le_refl _, (by decide : (-1 : Int) ≤ 1000000)⟩, ⟨Int.le_refl _, (by decide : (0 : Int) ≤ 1000)⟩, hx0, FrX.rf σ⟩) rfl rfl rfl
      obtain ⟨i, τ⟩ := q
      obtain ⟨hi0, ⟨s0, s1⟩, ⟨s2, s3⟩, hx1, hfr⟩ := hi
      dsimp only at hi0 s0 s1 s2 s3 hx1 hfr ih ⊢
      refine V_R (fun hR => ?_)
      have gP : PlM τ π := hπ0.fx (fun k i a => hfr k i (by omega) (by omega) (by omega) (by omega))
      have hx5 := hx1
      have hf5 := FrX.rf τ
      refine V_iload (pc := 35) C (dk k_Z_take 21 rfl) rfl ?_
      refine V_iload_n (pc := 37) C (dk k_Z_take 22 rfl) rfl ?_
      refine V_icmpgt (pc := 38) C (dk k_Z_take 23 rfl) 167 rfl (by first | exact hR _ _ | with_reducible assumption | exact ⟨by omega, by omega⟩) (by first | exact hR _ _ | with_reducible assumption | exact ⟨by omega, by omega⟩) (fun h3 => ?_) (fun h3 => ?_)
      · skip
        obtain rfl : i = al + 1 := by omega
        have hS : takF π x n = (fnd (okset al (ssum (prc π x) (pN π)) 0 (sM x)) (ssum (come π x n) (pN π)) (al + 1)) := by rw [hal]; exact fnd_ext _ (by rw [← hal]; omega) (fun b h1 h2 => okset_gt (by omega))
        have hne : (fnd (okset al (ssum (prc π x) (pN π)) 0 (sM x)) (ssum (come π x n) (pN π)) (al + 1)) ≠ none := fnd_0 (okset_iff.mpr ⟨by rw [Nat.zero_and], by rw [ssum_z]; exact Int.le_refl 0, by rw [ssum_z]; omega⟩) al
        have ho : o_take π x n k = if k = 0 then tb (fnd (okset al (ssum (prc π x) (pN π)) 0 (sM x)) (ssum (come π x n) (pN π)) (al + 1)) else tm (there π x n (pN π)) (fnd (okset al (ssum (prc π x) (pN π)) 0 (sM x)) (ssum (come π x n) (pN π)) (al + 1)) := by unfold o_take; rw [if_pos (by omega), hS]; exact take_end _ _ k hne
        refine V_iload_n (pc := 167) C (dk k_Z_take 85 rfl) rfl ?_
        refine V_ifne (pc := 168) C (dk k_Z_take 86 rfl) 176 rfl (by first | exact hR _ _ | with_reducible assumption | exact ⟨by omega, by omega⟩) (fun h4 => ?_) (fun h4 => ?_)
        · skip
          refine V_iload (pc := 176) C (dk k_Z_take 89 rfl) rfl ?_
          refine V_iret (pc := 178) C E (dk k_Z_take 90 rfl) ?_
          rw [ho]
          first | (rw [if_pos (by omega)]; exact ⟨rfl, MR.st ok hC hfr hx1, hfr.m⟩) | (rw [if_neg (by omega)]; exact ⟨rfl, MR.st ok hC hfr hx1, hfr.m⟩)
        · skip
          refine V_iload (pc := 171) C (dk k_Z_take 87 rfl) rfl ?_
          refine V_goto (pc := 173) C (dk k_Z_take 88 rfl) 178 rfl ?_
          refine V_iret (pc := 178) C E (dk k_Z_take 90 rfl) ?_
          rw [ho]
          first | (rw [if_pos (by omega)]; exact ⟨rfl, MR.st ok hC hfr hx1, hfr.m⟩) | (rw [if_neg (by omega)]; exact ⟨rfl, MR.st ok hC hfr hx1, hfr.m⟩)
      · skip
        have an : (i &&& al) ≤ i := Nat.and_le_left
        have ⟨c1, c2⟩ := ssum_0 (prc π x) 1000 (by omega) (pN π) i (fun u a d => by have := prc_b ok xk a d; omega)
        have ⟨c3, c4⟩ := ssum_0 (come π x n) 1000 (by omega) (pN π) i (fun u a d => by have := come_b (n := n) xk a d; omega)
        have hz := fnd_tb (ok := (okset al (ssum (prc π x) (pN π)) 0 (sM x))) (W := (ssum (come π x n) (pN π))) (i := i) (T := (there π x n (pN π))) (by omega)
        rw [okset_iff] at hz
        refine V_iload (pc := 41) C (dk k_Z_take 24 rfl) rfl ?_
        refine V_iload_n (pc := 43) C (dk k_Z_take 25 rfl) rfl ?_
        refine V_iconst (pc := 44) C (dk k_Z_take 26 rfl) rfl ?_
        refine V_ixm1 (pc := 45) C (dk k_Z_take 27 rfl) ?_
        refine V_iandn (pc := 46) C (dk k_Z_take 28 rfl) ⟨by omega, by omega⟩ ⟨by omega, by omega⟩ (by omega) (by omega) ?_
        rw [Int.toNat_natCast, Int.toNat_natCast]
        refine V_ifne (pc := 47) C (dk k_Z_take 29 rfl) 161 rfl (by first | exact hR _ _ | with_reducible assumption | exact ⟨by omega, by omega⟩) (fun h5 => ?_) (fun h5 => ?_)
        · skip
          refine V_iinc (pc := 161) C (dk k_Z_take 83 rfl) (by rw [hXN]; decide) rfl ?_
          dsimp only [lst, lstL, lz, kill, Fin.val, Nat.reduceAdd]
          refine V_goto (pc := 164) C (dk k_Z_take 84 rfl) 35 rfl ?_
          refine V_fg 7 ?_
          dsimp only [fg]
          first | (exfalso; omega) | (have e := hz.2 (fun q => by omega); refine V_eq (ih (i + 1, _) ⟨by dsimp only; omega, by dsimp only; rw [e]; exact ⟨s0, s1⟩, by dsimp only; rw [e]; exact ⟨s2, s3⟩, hx5, hfr.tr hf5⟩ (by dsimp only; omega)) ?_ rfl rfl; dsimp only; rw [e]; rfl) | (have e := hz.1 ⟨⟨by omega, by omega, by omega⟩, by omega⟩; refine V_eq (ih (i + 1, _) ⟨by dsimp only; omega, by dsimp only; rw [e]; show -1 ≤ (there π x n (pN π)) + (ssum (come π x n) (pN π)) i ∧ (there π x n (pN π)) + (ssum (come π x n) (pN π)) i ≤ 1000000; omega, by dsimp only; rw [e]; show 0 ≤ (i : Int) ∧ (i : Int) ≤ 1000; omega, hx5, hfr.tr hf5⟩ (by dsimp only; omega)) ?_ rfl rfl; dsimp only; rw [e]; rfl)
        · skip
          refine V_aload_n (pc := 50) C (dk k_Z_take 30 rfl) rfl ?_
          refine V_iload (pc := 51) C (dk k_Z_take 31 rfl) rfl ?_
          refine V_iconst (pc := 53) C (dk k_Z_take 32 rfl) rfl ?_
          refine V_callV (pc := 54) C (dk k_Z_take 33 rfl) lk_Z_229 cm_Z_sumOf vm_Z_sumOf (c_Z_sumOf _ _ _ π x j i 1 (prc π x) gP ok hx1 xk (by omega) (by omega) (Or.inr ⟨rfl, rfl⟩)) kq_128 rfl rfl rfl (Nat.le_of_ble_eq_true rfl) (Rm.mono hRm (by decide) (by decide)) ?_
          refine V_aload_n (pc := 57) C (dk k_Z_take 34 rfl) rfl ?_
          refine V_geti (pc := 58) (ji := 9) C (dk k_Z_take 35 rfl) fl_Z_87 kq_128 (by decide) rfl rfl ?_
          rw [hx1.2.1]
          refine V_icmpgt (pc := 61) C (dk k_Z_take 36 rfl) 161 rfl (by first | exact hR _ _ | with_reducible assumption | exact ⟨by omega, by omega⟩) (by first | exact hR _ _ | with_reducible assumption | exact ⟨by omega, by omega⟩) (fun h6 => ?_) (fun h6 => ?_)
          · skip
            refine V_iinc (pc := 161) C (dk k_Z_take 83 rfl) (by rw [hXN]; decide) rfl ?_
            dsimp only [lst, lstL, lz, kill, Fin.val, Nat.reduceAdd]
            refine V_goto (pc := 164) C (dk k_Z_take 84 rfl) 35 rfl ?_
            refine V_fg 7 ?_
            dsimp only [fg]
            first | (exfalso; omega) | (have e := hz.2 (fun q => by omega); refine V_eq (ih (i + 1, _) ⟨by dsimp only; omega, by dsimp only; rw [e]; exact ⟨s0, s1⟩, by dsimp only; rw [e]; exact ⟨s2, s3⟩, hx5, hfr.tr hf5⟩ (by dsimp only; omega)) ?_ rfl rfl; dsimp only; rw [e]; rfl) | (have e := hz.1 ⟨⟨by omega, by omega, by omega⟩, by omega⟩; refine V_eq (ih (i + 1, _) ⟨by dsimp only; omega, by dsimp only; rw [e]; show -1 ≤ (there π x n (pN π)) + (ssum (come π x n) (pN π)) i ∧ (there π x n (pN π)) + (ssum (come π x n) (pN π)) i ≤ 1000000; omega, by dsimp only; rw [e]; show 0 ≤ (i : Int) ∧ (i : Int) ≤ 1000; omega, hx5, hfr.tr hf5⟩ (by dsimp only; omega)) ?_ rfl rfl; dsimp only; rw [e]; rfl)
          · skip
            refine V_aload_n (pc := 64) C (dk k_Z_take 37 rfl) rfl ?_
            refine V_callV0r (pc := 65) C (dk k_Z_take 38 rfl) lk_Z_212 cm_Z_begin vm_Z_begin (c_Z_begin _ _ _ π x ok hx1) kq_128 rfl rfl rfl (Nat.le_of_ble_eq_true rfl) (Rm.mono hRm (by decide) (by decide)) (fun τ1 hq1 => ?_)
            refine V_R (fun hR => ?_)
            have hsub := sub_tb hal (show i - (i &&& al) = 0 by omega)
            refine V_iconst (pc := 68) C (dk k_Z_take 39 rfl) rfl ?_
            refine V_istore (pc := 69) C (dk k_Z_take 40 rfl) (by rw [hXN]; decide) ?_
            dsimp only [lst, lstL, lz, kill, Fin.val, Nat.reduceAdd]
            refine V_eq (V_loop (fun q : Nat × Wd => q.1 ≤ pN π ∧ StM q.2 π (mkI x i q.1) ∧ FrZ τ1 q.2) (fun q => [some (vR 128), some (vI n), some (vI k), some (vI (al : Int)), some (vI (tb (fnd (okset al (ssum (prc π x) (pN π)) 0 (sM x)) (ssum (come π x n) (pN π)) i))), some (vI (tm (there π x n (pN π)) (fnd (okset al (ssum (prc π x) (pN π)) 0 (sM x)) (ssum (come π x n) (pN π)) i))), some (vI (i : Int)), some (vI (q.1 : Int))]) (fun q => q.2) (fun q => pN π - q.1) (fun q hq ih3 => ?_) (0, τ1) ⟨Nat.zero_le _, mk_0 i (hx1.fx (fun k i a => hq1.2 k i (Or.inl (by omega)))), FrZ.rf _⟩) rfl rfl rfl
            obtain ⟨t, ρ⟩ := q
            obtain ⟨ht, hx2, hfr2⟩ := hq
            dsimp only at ht hx2 hfr2 ih3 ⊢
            refine V_R (fun hR => ?_)
            have gP1 : PlM τ1 π := gP.fx (fun k i a => hq1.2 k i (Or.inl (by omega)))
            have gP2 : PlM ρ π := gP1.fr hfr2
            refine V_iload (pc := 71) C (dk k_Z_take 41 rfl) rfl ?_
            refine V_aload_n (pc := 73) C (dk k_Z_take 42 rfl) rfl ?_
            refine V_geti (pc := 74) (ji := 1) C (dk k_Z_take 43 rfl) fl_Z_81 kq_128 (by decide) rfl rfl ?_
            rw [gP2.2.1]
            refine V_icmpge (pc := 77) C (dk k_Z_take 44 rfl) 114 rfl (by first | exact hR _ _ | with_reducible assumption | exact ⟨by omega, by omega⟩) (by first | exact hR _ _ | with_reducible assumption | exact ⟨by omega, by omega⟩) (fun h7 => ?_) (fun h7 => ?_)
            · skip
              obtain rfl : t = pN π := by omega
              refine V_aload_n (pc := 114) C (dk k_Z_take 61 rfl) rfl ?_
              refine V_iload_n (pc := 115) C (dk k_Z_take 62 rfl) rfl ?_
              refine V_callV0r (pc := 116) C (dk k_Z_take 63 rfl) lk_Z_206 cm_Z_goesOn vm_Z_goesOn (c_Z_goesOn _ _ _ π (mkI x i (pN π)) j gP2 ok hx2 (mk_ok xk hsub) (by omega) n (by omega) (by omega)) kq_128 rfl rfl rfl (Nat.le_of_ble_eq_true rfl) (Rm.mono hRm (by decide) (by decide)) (fun τ3 hq3 => ?_)
              refine V_R (fun hR => ?_)
              refine V_aload_n (pc := 119) C (dk k_Z_take 64 rfl) rfl ?_
              refine V_callV (pc := 120) C (dk k_Z_take 65 rfl) lk_Z_218 cm_Z_nearIn vm_Z_nearIn (c_Z_nearIn _ _ _ π (daysX π (mkI x i (pN π)) n.toNat) (j + 3) (gP2.fr hq3.2) ok hq3.1 ((days_ok ok (mk_ok xk hsub) n.toNat).ok (by omega) (by omega)) (by omega)) kq_128 rfl rfl rfl (Nat.le_of_ble_eq_true rfl) (Rm.mono hRm (by decide) (by decide)) ?_
              rw [take_by (n := n) xk hsub]
              refine V_istore (pc := 123) C (dk k_Z_take 66 rfl) (by rw [hXN]; decide) ?_
              dsimp only [lst, lstL, lz, kill, Fin.val, Nat.reduceAdd]
              refine V_aload_n (pc := 125) C (dk k_Z_take 67 rfl) rfl ?_
              refine V_callV0r (pc := 126) C (dk k_Z_take 68 rfl) lk_Z_215 cm_Z_putBack vm_Z_putBack (c_Z_putBack _ _ _ π x ok (hq1.1.fr ok (fun u _ _ => (hfr2.tr hq3.2) 145 (0 + u) (by omega) (by omega)))) kq_128 rfl rfl rfl (Nat.le_of_ble_eq_true rfl) (Rm.mono hRm (by decide) (by decide)) (fun τ4 hq4 => ?_)
              refine V_R (fun hR => ?_)
              have hx5 := hq4.1
              have hf5 : FrX τ τ4 := hq1.2.x.tr ((hfr2.x.tr hq3.2.x).tr hq4.2.x)
              refine V_iload (pc := 129) C (dk k_Z_take 69 rfl) rfl ?_
              refine V_iload (pc := 131) C (dk k_Z_take 70 rfl) rfl ?_
              refine V_icmple (pc := 133) C (dk k_Z_take 71 rfl) 141 rfl (by first | exact hR _ _ | with_reducible assumption | exact ⟨by omega, by omega⟩) (by first | exact hR _ _ | with_reducible assumption | exact ⟨by omega, by omega⟩) (fun h8 => ?_) (fun h8 => ?_)
              · skip
                refine V_iload (pc := 141) C (dk k_Z_take 74 rfl) rfl ?_
                refine V_istore (pc := 143) C (dk k_Z_take 75 rfl) (by rw [hXN]; decide) ?_
                dsimp only [lst, lstL, lz, kill, Fin.val, Nat.reduceAdd]
                refine V_iload (pc := 145) C (dk k_Z_take 76 rfl) rfl ?_
                refine V_iload (pc := 147) C (dk k_Z_take 77 rfl) rfl ?_
                refine V_icmple (pc := 149) C (dk k_Z_take 78 rfl) 157 rfl (by first | exact hR _ _ | with_reducible assumption | exact ⟨by omega, by omega⟩) (by first | exact hR _ _ | with_reducible assumption | exact ⟨by omega, by omega⟩) (fun h9 => ?_) (fun h9 => ?_)
                · skip
                  refine V_iload (pc := 157) C (dk k_Z_take 81 rfl) rfl ?_
                  refine V_istore (pc := 159) C (dk k_Z_take 82 rfl) (by rw [hXN]; decide) ?_
                  dsimp only [lst, lstL, lz, kill, Fin.val, Nat.reduceAdd]
                  refine V_iinc (pc := 161) C (dk k_Z_take 83 rfl) (by rw [hXN]; decide) rfl ?_
                  dsimp only [lst, lstL, lz, kill, Fin.val, Nat.reduceAdd]
                  refine V_goto (pc := 164) C (dk k_Z_take 84 rfl) 35 rfl ?_
                  refine V_fg 7 ?_
                  dsimp only [fg]
                  first | (exfalso; omega) | (have e := hz.2 (fun q => by omega); refine V_eq (ih (i + 1, _) ⟨by dsimp only; omega, by dsimp only; rw [e]; exact ⟨s0, s1⟩, by dsimp only; rw [e]; exact ⟨s2, s3⟩, hx5, hfr.tr hf5⟩ (by dsimp only; omega)) ?_ rfl rfl; dsimp only; rw [e]; rfl) | (have e := hz.1 ⟨⟨by omega, by omega, by omega⟩, by omega⟩; refine V_eq (ih (i + 1, _) ⟨by dsimp only; omega, by dsimp only; rw [e]; show -1 ≤ (there π x n (pN π)) + (ssum (come π x n) (pN π)) i ∧ (there π x n (pN π)) + (ssum (come π x n) (pN π)) i ≤ 1000000; omega, by dsimp only; rw [e]; show 0 ≤ (i : Int) ∧ (i : Int) ≤ 1000; omega, hx5, hfr.tr hf5⟩ (by dsimp only; omega)) ?_ rfl rfl; dsimp only; rw [e]; rfl)
                · skip
                  refine V_iload (pc := 152) C (dk k_Z_take 79 rfl) rfl ?_
                  refine V_goto (pc := 154) C (dk k_Z_take 80 rfl) 159 rfl ?_
                  refine V_istore (pc := 159) C (dk k_Z_take 82 rfl) (by rw [hXN]; decide) ?_
                  dsimp only [lst, lstL, lz, kill, Fin.val, Nat.reduceAdd]
                  refine V_iinc (pc := 161) C (dk k_Z_take 83 rfl) (by rw [hXN]; decide) rfl ?_
                  dsimp only [lst, lstL, lz, kill, Fin.val, Nat.reduceAdd]
                  refine V_goto (pc := 164) C (dk k_Z_take 84 rfl) 35 rfl ?_
                  refine V_fg 7 ?_
                  dsimp only [fg]
                  first | (exfalso; omega) | (have e := hz.2 (fun q => by omega); refine V_eq (ih (i + 1, _) ⟨by dsimp only; omega, by dsimp only; rw [e]; exact ⟨s0, s1⟩, by dsimp only; rw [e]; exact ⟨s2, s3⟩, hx5, hfr.tr hf5⟩ (by dsimp only; omega)) ?_ rfl rfl; dsimp only; rw [e]; rfl) | (have e := hz.1 ⟨⟨by omega, by omega, by omega⟩, by omega⟩; refine V_eq (ih (i + 1, _) ⟨by dsimp only; omega, by dsimp only; rw [e]; show -1 ≤ (there π x n (pN π)) + (ssum (come π x n) (pN π)) i ∧ (there π x n (pN π)) + (ssum (come π x n) (pN π)) i ≤ 1000000; omega, by dsimp only; rw [e]; show 0 ≤ (i : Int) ∧ (i : Int) ≤ 1000; omega, hx5, hfr.tr hf5⟩ (by dsimp only; omega)) ?_ rfl rfl; dsimp only; rw [e]; rfl)
              · skip
                refine V_iload (pc := 136) C (dk k_Z_take 72 rfl) rfl ?_
                refine V_goto (pc := 138) C (dk k_Z_take 73 rfl) 143 rfl ?_
                refine V_istore (pc := 143) C (dk k_Z_take 75 rfl) (by rw [hXN]; decide) ?_
                dsimp only [lst, lstL, lz, kill, Fin.val, Nat.reduceAdd]
                refine V_iload (pc := 145) C (dk k_Z_take 76 rfl) rfl ?_
                refine V_iload (pc := 147) C (dk k_Z_take 77 rfl) rfl ?_
                refine V_icmple (pc := 149) C (dk k_Z_take 78 rfl) 157 rfl (by first | exact hR _ _ | with_reducible assumption | exact ⟨by omega, by omega⟩) (by first | exact hR _ _ | with_reducible assumption | exact ⟨by omega, by omega⟩) (fun h10 => ?_) (fun h10 => ?_)
                · skip
                  refine V_iload (pc := 157) C (dk k_Z_take 81 rfl) rfl ?_
                  refine V_istore (pc := 159) C (dk k_Z_take 82 rfl) (by rw [hXN]; decide) ?_
                  dsimp only [lst, lstL, lz, kill, Fin.val, Nat.reduceAdd]
                  refine V_iinc (pc := 161) C (dk k_Z_take 83 rfl) (by rw [hXN]; decide) rfl ?_
                  dsimp only [lst, lstL, lz, kill, Fin.val, Nat.reduceAdd]
                  refine V_goto (pc := 164) C (dk k_Z_take 84 rfl) 35 rfl ?_
                  refine V_fg 7 ?_
                  dsimp only [fg]
                  first | (exfalso; omega) | (have e := hz.2 (fun q => by omega); refine V_eq (ih (i + 1, _) ⟨by dsimp only; omega, by dsimp only; rw [e]; exact ⟨s0, s1⟩, by dsimp only; rw [e]; exact ⟨s2, s3⟩, hx5, hfr.tr hf5⟩ (by dsimp only; omega)) ?_ rfl rfl; dsimp only; rw [e]; rfl) | (have e := hz.1 ⟨⟨by omega, by omega, by omega⟩, by omega⟩; refine V_eq (ih (i + 1, _) ⟨by dsimp only; omega, by dsimp only; rw [e]; show -1 ≤ (there π x n (pN π)) + (ssum (come π x n) (pN π)) i ∧ (there π x n (pN π)) + (ssum (come π x n) (pN π)) i ≤ 1000000; omega, by dsimp only; rw [e]; show 0 ≤ (i : Int) ∧ (i : Int) ≤ 1000; omega, hx5, hfr.tr hf5⟩ (by dsimp only; omega)) ?_ rfl rfl; dsimp only; rw [e]; rfl)
                · skip
                  refine V_iload (pc := 152) C (dk k_Z_take 79 rfl) rfl ?_
                  refine V_goto (pc := 154) C (dk k_Z_take 80 rfl) 159 rfl ?_
                  refine V_istore (pc := 159) C (dk k_Z_take 82 rfl) (by rw [hXN]; decide) ?_
                  dsimp only [lst, lstL, lz, kill, Fin.val, Nat.reduceAdd]
                  refine V_iinc (pc := 161) C (dk k_Z_take 83 rfl) (by rw [hXN]; decide) rfl ?_
                  dsimp only [lst, lstL, lz, kill, Fin.val, Nat.reduceAdd]
                  refine V_goto (pc := 164) C (dk k_Z_take 84 rfl) 35 rfl ?_
                  refine V_fg 7 ?_
                  dsimp only [fg]
                  first | (exfalso; omega) | (have e := hz.2 (fun q => by omega); refine V_eq (ih (i + 1, _) ⟨by dsimp only; omega, by dsimp only; rw [e]; exact ⟨s0, s1⟩, by dsimp only; rw [e]; exact ⟨s2, s3⟩, hx5, hfr.tr hf5⟩ (by dsimp only; omega)) ?_ rfl rfl; dsimp only; rw [e]; rfl) | (have e := hz.1 ⟨⟨by omega, by omega, by omega⟩, by omega⟩; refine V_eq (ih (i + 1, _) ⟨by dsimp only; omega, by dsimp only; rw [e]; show -1 ≤ (there π x n (pN π)) + (ssum (come π x n) (pN π)) i ∧ (there π x n (pN π)) + (ssum (come π x n) (pN π)) i ≤ 1000000; omega, by dsimp only; rw [e]; show 0 ≤ (i : Int) ∧ (i : Int) ≤ 1000; omega, hx5, hfr.tr hf5⟩ (by dsimp only; omega)) ?_ rfl rfl; dsimp only; rw [e]; rfl)
            · skip
              refine V_aload_n (pc := 80) C (dk k_Z_take 45 rfl) rfl ?_
              refine V_getr (pc := 81) (o2 := 136) C (dk k_Z_take 46 rfl) fl_Z_31 kq_128 (by decide) rfl (by decide) rfl ?_
              refine V_iload (pc := 84) C (dk k_Z_take 47 rfl) rfl ?_
              refine V_iload (pc := 86) C (dk k_Z_take 48 rfl) rfl ?_
              refine V_iload (pc := 88) C (dk k_Z_take 49 rfl) rfl ?_
              refine V_callS (pc := 90) C (dk k_Z_take 50 rfl) lk_Z_221 cm_Z_has sm_Z_has (c_Z_has _ _ _ i t (by omega) (by omega)) rfl rfl (Nat.le_of_ble_eq_true rfl) (Rm.mono hRm (by decide) (by decide)) ?_
              refine V_ifeqB (pc := 93) C (dk k_Z_take 51 rfl) 100 rfl (fun h11 => ?_) (fun h11 => ?_)
              · skip
                refine V_aload_n (pc := 100) C (dk k_Z_take 54 rfl) rfl ?_
                refine V_getr (pc := 101) (o2 := 136) C (dk k_Z_take 55 rfl) fl_Z_31 kq_128 (by decide) rfl (by decide) rfl ?_
                refine V_iload (pc := 104) C (dk k_Z_take 56 rfl) rfl ?_
                refine V_iald (pc := 106) C (dk k_Z_take 57 rfl) kq_136 (by decide) (by omega) (by omega) ?_
                refine V_iast (pc := 107) C (dk k_Z_take 58 rfl) kq_136 (by decide) (by omega) (by omega) (by first | exact hR _ _ | exact ⟨by decide, by decide⟩) ?_
                refine V_R (fun hR => ?_)
                refine V_iinc (pc := 108) C (dk k_Z_take 59 rfl) (by rw [hXN]; decide) rfl ?_
                dsimp only [lst, lstL, lz, kill, Fin.val, Nat.reduceAdd]
                refine V_goto (pc := 111) C (dk k_Z_take 60 rfl) 71 rfl ?_
                first | exact ih3 (t + 1, up ρ 136 (t : Int) 1) ⟨by dsimp only; omega, mk_s hx2 _ (by rw [if_pos (by assumption)]), hfr2.up 136 _ _ (by omega)⟩ (by dsimp only; omega) | exact ih3 (t + 1, up ρ 136 (t : Int) (ρ 136 t)) ⟨by dsimp only; omega, mk_s hx2 _ (by rw [if_neg (by assumption)]; exact (hx2.2.2.2 t (by omega) (by omega)).2.trans (mk_P x i t)), hfr2.up 136 _ _ (by omega)⟩ (by dsimp only; omega)
              · skip
                refine V_iconst (pc := 96) C (dk k_Z_take 52 rfl) rfl ?_
                refine V_goto (pc := 97) C (dk k_Z_take 53 rfl) 107 rfl ?_
                refine V_iast (pc := 107) C (dk k_Z_take 58 rfl) kq_136 (by decide) (by omega) (by omega) (by first | exact hR _ _ | exact ⟨by decide, by decide⟩) ?_
                refine V_R (fun hR => ?_)
                refine V_iinc (pc := 108) C (dk k_Z_take 59 rfl) (by rw [hXN]; decide) rfl ?_
                dsimp only [lst, lstL, lz, kill, Fin.val, Nat.reduceAdd]
                refine V_goto (pc := 111) C (dk k_Z_take 60 rfl) 71 rfl ?_
                first | exact ih3 (t + 1, up ρ 136 (t : Int) 1) ⟨by dsimp only; omega, mk_s hx2 _ (by rw [if_pos (by assumption)]), hfr2.up 136 _ _ (by omega)⟩ (by dsimp only; omega) | exact ih3 (t + 1, up ρ 136 (t : Int) (ρ 136 t)) ⟨by dsimp only; omega, mk_s hx2 _ (by rw [if_neg (by assumption)]; exact (hx2.2.2.2 t (by omega) (by omega)).2.trans (mk_P x i t)), hfr2.up 136 _ _ (by omega)⟩ (by dsimp only; omega)
    · skip
      refine V_iconst (pc := 19) C (dk k_Z_take 10 rfl) rfl ?_
      refine V_iret (pc := 20) C E (dk k_Z_take 11 rfl) ?_
      rw [show o_take π x n k = -1 from if_neg (by omega)]
      exact ⟨rfl, hC, Fm.rf σ⟩
