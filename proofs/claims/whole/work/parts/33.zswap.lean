/-- the model's slots: with whom each is -/
def swS (q : Nat → Nat) : Nat → List Nat
  | 0 => []
  | p + 1 => swS q p ++ List.replicate (q p) p
/-- how many slots of a person are free -/
def swr : List Nat → Nat → Nat → Nat → Nat
  | [], _, _, _ => 0
  | a :: l, k, b, p => (if b.testBit k = false ∧ a = p then 1 else 0) + swr l (k + 1) b p
/-- how many of n bits from k on are set -/
def swb : Nat → Nat → Nat → Nat
  | 0, _, _ => 0
  | n + 1, k, b => (if b.testBit k = true then 1 else 0) + swb n (k + 1) b
theorem cnt_swb (b : Nat) : ∀ n k : Nat, cnt b (k + n) = cnt b k + swb n k b
  | 0, k => by show cnt b k = cnt b k + ((0 : Nat) : Int); omega
  | n + 1, k => by
    rw [show k + (n + 1) = (k + 1) + n by omega, cnt_swb b n (k + 1), swb, cnt]
    by_cases h : b.testBit k = true
    · rw [if_pos h, if_pos h]; omega
    · rw [if_neg h, if_neg h]; omega
theorem cnt_hi {b n : Nat} (h : b < 2 ^ n) : ∀ m : Nat, n ≤ m → cnt b m = cnt b n
  | 0, e => by obtain rfl : n = 0 := by omega
               rfl
  | m + 1, e => by
    by_cases hm : n = m + 1
    · rw [hm]
    · rw [cnt, cnt_hi h m (by omega), Nat.testBit_lt_two_pow (Nat.lt_of_lt_of_le h (Nat.pow_le_pow_right (by decide) (show n ≤ m by omega)))]
      simp
theorem cnt_8 {b n : Nat} (h : b < 2 ^ n) (h8 : n ≤ 8) : cnt b 8 = (swb n 0 b : Nat) := by
  rw [cnt_hi h 8 h8]
  have := cnt_swb b n 0
  rw [Nat.zero_add] at this
  rw [this]
  show (0 : Int) + _ = _
  omega
theorem swb_le (b : Nat) : ∀ n k : Nat, swb n k b ≤ n
  | 0, _ => Nat.le_refl 0
  | n + 1, k => by
    have := swb_le b n (k + 1)
    rw [swb]; split <;> omega
theorem swb_all {b : Nat} : ∀ n k : Nat, (∀ j, k ≤ j → j < k + n → b.testBit j = true) → swb n k b = n
  | 0, _, _ => rfl
  | n + 1, k, h => by
    rw [swb, if_pos (h k (Nat.le_refl _) (by omega)), swb_all n (k + 1) (fun j a c => h j (by omega) (by omega))]; omega
theorem swb_no {b : Nat} : ∀ n k : Nat, swb n k b = n → ∀ j, k ≤ j → j < k + n → b.testBit j = true
  | 0, _, _, j, a, c => by omega
  | n + 1, k, h, j, a, c => by
    have := swb_le b n (k + 1)
    rw [swb] at h
    by_cases hb : b.testBit k = true
    · rw [if_pos hb] at h
      by_cases hj : j = k
      · rw [hj]; exact hb
      · exact swb_no n (k + 1) (by omega) j (by omega) (by omega)
    · rw [if_neg hb] at h; omega
theorem swb_cg {b c : Nat} : ∀ n k : Nat, (∀ j, k ≤ j → b.testBit j = c.testBit j) → swb n k b = swb n k c
  | 0, _, _ => rfl
  | n + 1, k, h => by rw [swb, swb, h k (Nat.le_refl _), swb_cg n (k + 1) (fun j a => h j (by omega))]
theorem swb_set {b : Nat} : ∀ n k i : Nat, i < n → b.testBit (k + i) = false → swb n k (b ||| 2 ^ (k + i)) = swb n k b + 1
  | 0, _, i, h, _ => by omega
  | n + 1, k, 0, h, hb => by
    rw [swb, swb, Nat.add_zero, Nat.testBit_or, Nat.testBit_two_pow_self, Bool.or_true, if_pos rfl]
    rw [Nat.add_zero] at hb
    rw [if_neg (by rw [hb]; decide), swb_cg n (k + 1) (c := b) (fun j a => by rw [Nat.testBit_or, Nat.testBit_two_pow_of_ne (by omega), Bool.or_false])]
    omega
  | n + 1, k, i + 1, h, hb => by
    rw [swb, swb, Nat.testBit_or, Nat.testBit_two_pow_of_ne (show k + (i + 1) ≠ k by omega), Bool.or_false]
    rw [show k + (i + 1) = (k + 1) + i by omega] at hb ⊢
    rw [swb_set n (k + 1) i (by omega) hb]
    omega
theorem swr_cg {b c : Nat} : ∀ (l : List Nat) (k : Nat), (∀ j, k ≤ j → b.testBit j = c.testBit j) → ∀ p, swr l k b p = swr l k c p
  | [], _, _, _ => rfl
  | a :: l, k, h, p => by rw [swr, swr, h k (Nat.le_refl _), swr_cg l (k + 1) (fun j a => h j (by omega)) p]
theorem swr_pos {b : Nat} : ∀ (l : List Nat) (k p : Nat), swr l k b p ≠ 0 ↔ ∃ i, l[i]? = some p ∧ b.testBit (k + i) = false
  | [], k, p => by simp [swr]
  | a :: l, k, p => by
    rw [swr]
    have ih := swr_pos (b := b) l (k + 1) p
    constructor
    · intro h
      by_cases h0 : b.testBit k = false ∧ a = p
      · exact ⟨0, by rw [h0.2]; rfl, h0.1⟩
      · rw [if_neg h0, Nat.zero_add] at h
        obtain ⟨i, e1, e2⟩ := ih.mp h
        exact ⟨i + 1, by simpa using e1, by rw [show k + (i + 1) = k + 1 + i by omega]; exact e2⟩
    · rintro ⟨i, e1, e2⟩
      rcases i with _ | i
      · simp at e1
        rw [if_pos ⟨e2, e1⟩]; omega
      · have : swr l (k + 1) b p ≠ 0 := ih.mpr ⟨i, by simpa using e1, by rw [show k + 1 + i = k + (i + 1) by omega]; exact e2⟩
        omega
theorem swr_set {b : Nat} : ∀ (l : List Nat) (k i a : Nat), l[i]? = some a → b.testBit (k + i) = false → ∀ p, swr l k (b ||| 2 ^ (k + i)) p = swd (swr l k b) a p
  | [], _, _, _, h, _, _ => by simp at h
  | c :: l, k, 0, a, h, hb, p => by
    simp at h
    subst h
    rw [Nat.add_zero] at hb ⊢
    unfold swd
    rw [swr, swr, Nat.testBit_or, Nat.testBit_two_pow_self, Bool.or_true, if_neg (fun q => by cases q.1), swr_cg l (k + 1) (c := b) (fun j a => by rw [Nat.testBit_or, Nat.testBit_two_pow_of_ne (by omega), Bool.or_false]) p]
    by_cases hp : p = c
    · subst hp
      rw [if_pos rfl, if_pos ⟨hb, rfl⟩]; omega
    · rw [if_neg hp, if_neg (fun q => hp q.2.symm)]
  | c :: l, k, i + 1, a, h, hb, p => by
    have h1 : l[i]? = some a := by simpa using h
    rw [show k + (i + 1) = (k + 1) + i by omega] at hb ⊢
    have ih := swr_set l (k + 1) i a h1 hb p
    have hpos := (swr_pos (b := b) l (k + 1) a).mpr ⟨i, h1, hb⟩
    unfold swd at ih ⊢
    rw [swr, swr, ih, Nat.testBit_or, Nat.testBit_two_pow_of_ne (show k + 1 + i ≠ k by omega), Bool.or_false]
    by_cases hp : p = a
    · subst hp
      rw [if_pos rfl, if_pos rfl]; omega
    · rw [if_neg hp, if_neg hp]
theorem swr_app {b : Nat} (p : Nat) : ∀ (l l' : List Nat) (k : Nat), swr (l ++ l') k b p = swr l k b p + swr l' (k + l.length) b p
  | [], l', k => by simp [swr]
  | a :: l, l', k => by
    show swr (a :: (l ++ l')) k b p = _
    rw [swr, swr, swr_app p l l' (k + 1), List.length_cons, show k + 1 + l.length = k + (l.length + 1) by omega]; omega
theorem swr_rep (a p : Nat) : ∀ n k : Nat, swr (List.replicate n a) k 0 p = if a = p then n else 0
  | 0, _ => by simp [swr]
  | n + 1, k => by
    rw [List.replicate_succ, swr, swr_rep a p n (k + 1), Nat.zero_testBit]
    by_cases h : a = p
    · rw [if_pos ⟨rfl, h⟩, if_pos h, if_pos h]; omega
    · rw [if_neg (fun q => h q.2), if_neg h, if_neg h]
theorem swr_S (q : Nat → Nat) (p : Nat) : ∀ n : Nat, swr (swS q n) 0 0 p = if p < n then q p else 0
  | 0 => rfl
  | n + 1 => by
    rw [swS, swr_app, swr_S q p n, swr_rep]
    by_cases h : n = p
    · subst h
      rw [if_neg (by omega), if_pos rfl, if_pos (by omega)]; omega
    · rw [if_neg h]
      by_cases h2 : p < n
      · rw [if_pos h2, if_pos (by omega), Nat.add_zero]
      · rw [if_neg h2, if_neg (by omega)]
theorem swS_len (q : Nat → Nat) : ∀ n : Nat, (swS q n).length = s5I q n
  | 0 => rfl
  | n + 1 => by rw [swS, List.length_append, swS_len q n, List.length_replicate]; rfl
theorem swS_mem (q : Nat → Nat) : ∀ n a : Nat, a ∈ swS q n → a < n
  | 0, a, h => by simp [swS] at h
  | n + 1, a, h => by
    rw [swS, List.mem_append] at h
    rcases h with h | h
    · have := swS_mem q n a h; omega
    · have := List.eq_of_mem_replicate h; omega
theorem swS_p (q : Nat → Nat) : ∀ n : Nat, (swS q n).Pairwise (· ≤ ·)
  | 0 => List.Pairwise.nil
  | n + 1 => by
    rw [swS]
    refine List.pairwise_append.mpr ⟨swS_p q n, List.pairwise_replicate.mpr (Or.inr (Nat.le_refl n)), fun a ha b hb => ?_⟩
    have := swS_mem q n a ha
    have := List.eq_of_mem_replicate hb
    omega
theorem swS_le {l : List Nat} (h : l.Pairwise (· ≤ ·)) {i j a b : Nat} (hi : l[i]? = some a) (hj : l[j]? = some b) (hij : i ≤ j) : a ≤ b := by
  by_cases e : i = j
  · subst e; rw [hi] at hj; cases hj; exact Nat.le_refl _
  · obtain ⟨h1, h2⟩ := List.getElem?_eq_some_iff.mp hi
    obtain ⟨h3, h4⟩ := List.getElem?_eq_some_iff.mp hj
    have := List.pairwise_iff_getElem.mp h i j h1 h3 (by omega)
    rw [h2, h4] at this; exact this
theorem swr_sum {b : Nat} : ∀ (l : List Nat) (k : Nat), (∀ a ∈ l, a < 5) → s5 (swr l k b) + swb l.length k b = l.length
  | [], _, _ => by rw [s5_e]; rfl
  | a :: l, k, h => by
    have ih := swr_sum (b := b) l (k + 1) (fun c q => h c (List.mem_cons_of_mem _ q))
    have ha := h a List.mem_cons_self
    rw [s5_e] at ih ⊢
    rw [List.length_cons, swb]
    have e : ∀ p, swr (a :: l) k b p = (if b.testBit k = false ∧ a = p then 1 else 0) + swr l (k + 1) b p := fun _ => rfl
    rw [e 0, e 1, e 2, e 3, e 4]
    cases hb : b.testBit k with
    | true => simp; omega
    | false => rcases p5 ha with rfl | rfl | rfl | rfl | rfl <;> simp <;> omega
theorem s5I_mono (r : Nat → Nat) {m : Nat} : ∀ n : Nat, m ≤ n → s5I r m ≤ s5I r n
  | 0, h => by obtain rfl : m = 0 := by omega
               exact Nat.le_refl _
  | n + 1, h => by
    by_cases e : m = n + 1
    · rw [e]; exact Nat.le_refl _
    · have := s5I_mono r n (show m ≤ n by omega)
      show s5I r m ≤ s5I r n + r n
      omega
theorem swQ_mono (π : PL) (x : ST) (p : Nat) {m : Nat} : ∀ n : Nat, m ≤ n → swQ π x m p ≤ swQ π x n p
  | 0, h => by obtain rfl : m = 0 := by omega
               exact Nat.le_refl _
  | n + 1, h => by
    by_cases e : m = n + 1
    · rw [e]; exact Nat.le_refl _
    · have := swQ_mono π x p n (show m ≤ n by omega)
      show swQ π x m p ≤ swQ π x n p + _
      omega
theorem swQ_0 {π : PL} {x : ST} {p : Nat} : ∀ n : Nat, (∀ t : Nat, t < n → pO π t < p) → swQ π x n p = 0
  | 0, _ => rfl
  | n + 1, h => by
    show swQ π x n p + _ = 0
    rw [swQ_0 n (fun t a => h t (by omega)), if_neg (fun q => by have := h n (by omega); omega)]
/-- all about slots and things -/
def SwK (π : PL) (q : Nat → Nat) (ms sl : List Nat) : Prop := ExK π q ms ∧ sl.length = ms.length ∧ (∀ a ∈ sl, a < 5) ∧ sl.Pairwise (· ≤ ·) ∧ (∀ p, p < 5 → swr sl 0 0 p = q p)
theorem SwK.of {π : PL} (ok : PLok π) (x : ST) : SwK π (qO π x) (msO π x) (swS (qO π x) (pP π)) := by
  have hK := ExK.of ok x
  obtain ⟨k1, k2, k3, k4, k5, k6, kT, kX⟩ := ok
  have h0 : ∀ p, pP π ≤ p → qO π x p = 0 := fun p a => swQ_0 (pN π) (fun t b => by have := kT t (by omega) (by omega); omega)
  have hr : ∀ p, p < 5 → swr (swS (qO π x) (pP π)) 0 0 p = qO π x p := fun p _ => by
    rw [swr_S]
    by_cases h : p < pP π
    · rw [if_pos h]
    · rw [if_neg h, h0 p (by omega)]
  refine ⟨hK, ?_, fun a h => by have := swS_mem _ _ _ h; omega, swS_p _ _, hr⟩
  have h5 : ∀ a ∈ swS (qO π x) (pP π), a < 5 := fun a h => by have := swS_mem _ _ _ h; omega
  have hs := swr_sum (b := 0) (swS (qO π x) (pP π)) 0 h5
  rw [s5_cg hr, hK.1] at hs
  have hz : swb (swS (qO π x) (pP π)).length 0 0 = 0 := by
    have : ∀ n k : Nat, swb n k 0 = 0 := by
      intro n
      induction n with
      | zero => intro k; rfl
      | succ n ih => intro k; rw [swb, ih, Nat.zero_testBit]; simp
    exact this _ _
  omega
/-- the model's table -/
def swK (π : PL) (ms sl : List Nat) (b : Nat) : Int := swL π (ms.drop (swb ms.length 0 b)) (swr sl 0 b)
theorem swK_s5 {π : PL} {q : Nat → Nat} {ms sl : List Nat} (h : SwK π q ms sl) (b : Nat) : s5 (swr sl 0 b) + swb ms.length 0 b = ms.length := by
  have := swr_sum (b := b) sl 0 h.2.2.1
  rw [h.2.1] at this; exact this
theorem swK_b {π : PL} {q : Nat → Nat} {ms sl : List Nat} (h : SwK π q ms sl) (b : Nat) : 0 ≤ swK π ms sl b ∧ swK π ms sl b ≤ 200 := by
  have h1 := swK_s5 h b
  have h2 := swb_le b ms.length 0
  have := swL_b π (ms.drop (swb ms.length 0 b)) (swr sl 0 b) (fun u hu => h.1.2.2.2.1 u (drop_mem hu)) (by rw [List.length_drop]; omega)
  rw [List.length_drop] at this
  have := h.1.2.1
  unfold swK; omega
theorem swK_d {π : PL} {q : Nat → Nat} {ms sl : List Nat} (h : SwK π q ms sl) {b : Nat} (hb : b < 2 ^ ms.length - 1) : ∃ t ts, ms.drop (swb ms.length 0 b) = t :: ts ∧ s5 (swr sl 0 b) = ts.length + 1 ∧ t ∈ ms ∧ swU π (t :: ts) ∧ swb ms.length 0 b < ms.length := by
  have h1 := swK_s5 h b
  have h2 := swb_le b ms.length 0
  have h3 : swb ms.length 0 b ≠ ms.length := fun e => by
    have ha := swb_no ms.length 0 e
    have : b = 2 ^ ms.length - 1 := Nat.eq_of_testBit_eq (fun j => by
      rw [Nat.testBit_two_pow_sub_one]
      by_cases hj : j < ms.length
      · rw [ha j (Nat.zero_le _) (by omega), decide_eq_true hj]
      · rw [decide_eq_false hj, Nat.testBit_lt_two_pow (Nat.lt_of_lt_of_le (show b < 2 ^ ms.length by omega) (Nat.pow_le_pow_right (by decide) (by omega)))])
    omega
  obtain ⟨t, ts, e⟩ := drop_ex (l := ms) (n := swb ms.length 0 b) (by omega)
  have hl := congrArg List.length e
  rw [List.length_drop, List.length_cons] at hl
  have hm : ∀ u ∈ (t :: ts), u ∈ ms := fun u hu => drop_mem (by rw [e]; exact hu)
  exact ⟨t, ts, e, by omega, hm t List.mem_cons_self, fun u hu => h.1.2.2.2.1 u (hm u hu), by omega⟩
theorem swK_s {π : PL} {q : Nat → Nat} {ms sl : List Nat} (h : SwK π q ms sl) {b k a t : Nat} {ts : List Nat} (hk : sl[k]? = some a) (hb : b.testBit k = false) (hd : ms.drop (swb ms.length 0 b) = t :: ts) : swK π ms sl (b ||| 2 ^ k) = swL π ts (swd (swr sl 0 b) a) ∧ swb ms.length 0 (b ||| 2 ^ k) = swb ms.length 0 b + 1 := by
  have hkl : k < ms.length := by rw [← h.2.1]; exact (List.getElem?_eq_some_iff.mp hk).1
  have e1 := swr_set (b := b) sl 0 k a hk (by rw [Nat.zero_add]; exact hb)
  have e2 := swb_set (b := b) ms.length 0 k hkl (by rw [Nat.zero_add]; exact hb)
  rw [Nat.zero_add] at e1 e2
  refine ⟨?_, e2⟩
  unfold swK
  rw [e2, (drop_at hd).2.1]
  exact swL_cg π ts _ _ (fun p _ => e1 p)
/-- the least by the slots up to k -/
def swl (c : Nat → Int) (sl : List Nat) (b : Nat) : Nat → Int
  | 0 => 1048576
  | k + 1 => if (if b.testBit k = true then 1048576 else c (sl.getD k 0)) < swl c sl b k then (if b.testBit k = true then 1048576 else c (sl.getD k 0)) else swl c sl b k
theorem swl_n {c : Nat → Int} {sl : List Nat} {b : Nat} : ∀ k : Nat, (∀ j, j < k → b.testBit j = false → 0 ≤ c (sl.getD j 0) ∧ c (sl.getD j 0) < 1048576) → 0 ≤ swl c sl b k ∧ swl c sl b k ≤ 1048576 ∧ ((∀ j, j < k → b.testBit j = true) ∨ ∃ j, j < k ∧ b.testBit j = false ∧ c (sl.getD j 0) = swl c sl b k) ∧ ∀ j, j < k → b.testBit j = false → swl c sl b k ≤ c (sl.getD j 0)
  | 0, _ => ⟨by show (0 : Int) ≤ 1048576; decide, by show (1048576 : Int) ≤ 1048576; decide, Or.inl (fun j a => by omega), fun j a => by omega⟩
  | k + 1, h => by
    obtain ⟨g0, g1, g2, g3⟩ := swl_n (c := c) (sl := sl) (b := b) k (fun j a => h j (by omega))
    rw [swl]
    cases hb : b.testBit k with
    | true =>
      rw [if_pos rfl, if_neg (by omega)]
      refine ⟨g0, g1, ?_, fun j a d => ?_⟩
      · rcases g2 with g2 | ⟨j, a1, a2, a3⟩
        · exact Or.inl (fun j a => by
            by_cases e : j = k
            · rw [e]; exact hb
            · exact g2 j (by omega))
        · exact Or.inr ⟨j, by omega, a2, a3⟩
      · by_cases e : j = k
        · rw [e, hb] at d; cases d
        · exact g3 j (by omega) d
    | false =>
      have hc := h k (by omega) hb
      rw [if_neg (show ¬ (false = true) by decide)]
      by_cases hl : c (sl.getD k 0) < swl c sl b k
      · rw [if_pos hl]
        refine ⟨hc.1, by omega, Or.inr ⟨k, by omega, hb, rfl⟩, fun j a d => ?_⟩
        by_cases e : j = k
        · rw [e]; omega
        · have := g3 j (by omega) d; omega
      · rw [if_neg hl]
        refine ⟨g0, g1, ?_, fun j a d => ?_⟩
        · rcases g2 with g2 | ⟨j, a1, a2, a3⟩
          · exact Or.inr ⟨k, by omega, hb, by
              have h0 : ∀ m, (∀ j, j < m → b.testBit j = true) → swl c sl b m = 1048576 := by
                intro m
                induction m with
                | zero => intro _; rfl
                | succ m ih =>
                  intro hm
                  rw [swl, if_pos (hm m (by omega)), ih (fun j a => hm j (by omega)), if_neg (by omega)]
              have := h0 k g2
              omega⟩
          · exact Or.inr ⟨j, by omega, a2, a3⟩
        · by_cases e : j = k
          · rw [e]; omega
          · exact g3 j (by omega) d
theorem slD {l : List Nat} {i a : Nat} (h : l[i]? = some a) : l.getD i 0 = a := by rw [List.getD_eq_getElem?_getD, h]; rfl
theorem slG {l : List Nat} {i : Nat} (h : i < l.length) : l[i]? = some (l.getD i 0) := by
  rw [List.getD_eq_getElem?_getD, List.getElem?_eq_getElem h]; rfl
theorem swC_b {π : PL} {q : Nat → Nat} {ms sl : List Nat} (h : SwK π q ms sl) {b t : Nat} {ts : List Nat} (hd : ms.drop (swb ms.length 0 b) = t :: ts) (hs : s5 (swr sl 0 b) = ts.length + 1) (hU : swU π (t :: ts)) {k : Nat} (hk : k < sl.length) (hb : b.testBit k = false) : swr sl 0 b (sl.getD k 0) ≠ 0 ∧ sl.getD k 0 < 5 ∧ 0 ≤ swC π t ts (swr sl 0 b) (sl.getD k 0) ∧ swC π t ts (swr sl 0 b) (sl.getD k 0) ≤ 400 := by
  have h1 := slG hk
  have h2 : swr sl 0 b (sl.getD k 0) ≠ 0 := (swr_pos sl 0 _).mpr ⟨k, h1, by rw [Nat.zero_add]; exact hb⟩
  have h3 : sl.getD k 0 < 5 := h.2.2.1 _ (List.mem_of_getElem? h1)
  have h4 := s5_d h3 h2
  have h5 := swL_b π ts (swd (swr sl 0 b) (sl.getD k 0)) (fun u z => hU u (List.mem_cons_of_mem _ z)) (by omega)
  have h6 := swc_b (hU t List.mem_cons_self) (sl.getD k 0)
  have h7 := congrArg List.length hd
  rw [List.length_drop, List.length_cons] at h7
  have := h.1.2.1
  refine ⟨h2, h3, ?_⟩
  show 0 ≤ swc π t (sl.getD k 0) + swL π ts (swd (swr sl 0 b) (sl.getD k 0)) ∧ swc π t (sl.getD k 0) + swL π ts (swd (swr sl 0 b) (sl.getD k 0)) ≤ 400
  omega
theorem swl_e {π : PL} {q : Nat → Nat} {ms sl : List Nat} (h : SwK π q ms sl) {b t : Nat} {ts : List Nat} (hd : ms.drop (swb ms.length 0 b) = t :: ts) (hs : s5 (swr sl 0 b) = ts.length + 1) (hU : swU π (t :: ts)) : swl (swC π t ts (swr sl 0 b)) sl b sl.length = swL π (t :: ts) (swr sl 0 b) := by
  obtain ⟨g0, g1, g2, g3⟩ := swl_n (c := swC π t ts (swr sl 0 b)) (sl := sl) (b := b) sl.length (fun j a d => by have := swC_b h hd hs hU a d; omega)
  refine swI_u ⟨?_, fun p a d => ?_⟩ (swL_I hU hs)
  · rcases g2 with g2 | ⟨j, a1, a2, a3⟩
    · exfalso
      obtain ⟨p, p1, p2⟩ := s5_pos (show s5 (swr sl 0 b) ≠ 0 by omega)
      obtain ⟨i, i1, i2⟩ := (swr_pos sl 0 p).mp p2
      rw [Nat.zero_add] at i2
      have := g2 i (List.getElem?_eq_some_iff.mp i1).1
      rw [i2] at this; cases this
    · have := swC_b h hd hs hU a1 a2
      exact ⟨_, this.2.1, this.1, a3⟩
  · obtain ⟨i, i1, i2⟩ := (swr_pos sl 0 p).mp d
    rw [Nat.zero_add] at i2
    have := g3 i (List.getElem?_eq_some_iff.mp i1).1 i2
    rw [slD i1] at this
    exact this
def SlR (σ : Wd) (l : List Nat) : Prop := σ 128 33 = l.length ∧ ∀ (i a : Nat), l[i]? = some a → σ 146 i = a
def InR (σ : Wd) (l : List Nat) : Prop := ∀ (i a : Nat), l[i]? = some a → σ 147 i = a
theorem SlR.add {σ : Wd} {l : List Nat} (h : SlR σ l) (a : Nat) : SlR (up (up σ 146 (l.length : Int) (a : Int)) 128 33 ((l.length : Int) + 1)) (l ++ [a]) := by
  obtain ⟨h1, h2⟩ := h
  refine ⟨by rw [up_at, List.length_append]; rfl, fun i c e => ?_⟩
  rw [up_ne1 _ _ _ _ (by decide)]
  rcases rowApp e with ⟨x, y⟩ | ⟨x, y⟩
  · rw [up_ne2 _ (by omega)]; exact h2 i c y
  · rw [x, up_at, y]
theorem InR.add {σ : Wd} {l : List Nat} (h : InR σ l) (a : Nat) : InR (up σ 147 (l.length : Int) (a : Int)) (l ++ [a]) := by
  intro i c e
  rcases rowApp e with ⟨x, y⟩ | ⟨x, y⟩
  · rw [up_ne2 _ (by omega)]; exact h i c y
  · rw [x, up_at, y]
/-- what swap works in alone is written -/
def FrS (σ σ' : Wd) : Prop := ∀ (k : Nat) (i : Int), ¬ (k = 128 ∧ i = 33) → ¬ (146 ≤ k ∧ k ≤ 148) → σ' k i = σ k i
theorem FrS.rf (σ : Wd) : FrS σ σ := fun _ _ _ _ => rfl
theorem FrS.tr {σ τ ρ : Wd} (h : FrS σ τ) (h2 : FrS τ ρ) : FrS σ ρ := fun k i a b => (h2 k i a b).trans (h k i a b)
theorem FrS.x {σ σ' : Wd} (h : FrS σ σ') : FrX σ σ' := fun k i a b c d => h k i (by omega) (by omega)
theorem FrS.up {σ τ : Wd} (h : FrS σ τ) (a : Nat) (i x : Int) (ha : (146 ≤ a ∧ a ≤ 148) ∨ (a = 128 ∧ i = 33)) : FrS σ (up τ a i x) := by
  intro k b h1 h2
  rw [up_off τ x (fun q => by obtain ⟨rfl, rfl⟩ := q; rcases ha with ha | ha; exact h2 ha; exact h1 ha)]
  exact h k b h1 h2
theorem or_lt {b k n : Nat} (hb : b < 2 ^ n) (hk : k < n) : b ||| 2 ^ k < 2 ^ n := Nat.or_lt_two_pow hb (Nat.pow_lt_pow_right (by decide) hk)
theorem or_gt {b k : Nat} (hb : b.testBit k = false) : b < b ||| 2 ^ k := by
  have h1 : b ≤ b ||| 2 ^ k := Nat.left_le_or
  have h2 : b ≠ b ||| 2 ^ k := fun e => by
    have := congrArg (fun z => z.testBit k) e
    simp only [Nat.testBit_or, Nat.testBit_two_pow_self, Bool.or_true] at this
    rw [hb] at this; cases this
  omega
theorem orI (b k : Nat) : ((((b : Int)).toNat ||| ((1 : Int) * 2 ^ (k : Int).toNat).toNat : Nat) : Int) = ((b ||| 2 ^ k : Nat) : Int) := by
  rw [p2I, Int.toNat_natCast, Int.toNat_natCast]
theorem p2lt {k n : Nat} (h : k < n) (h8 : n ≤ 8) : 2 ^ k < 256 := by
  have h1 := Nat.pow_lt_pow_right (a := 2) (by decide) h
  have h2 := (p2N h8).2
  omega

def i_Z_costOf : List (Nat × (Instr × Nat)) := [(0, (.aload_n 0, 1)), (1, (.getfield 13, 3)), (4, (.iload_n 1, 1)), (5, (.iaload, 1)), (6, (.iload_n 2, 1)), (7, (.if_icmp .ne 12, 3)), (10, (.aload_n 0, 1)), (11, (.getfield 19, 3)), (14, (.iload_n 1, 1)), (15, (.iaload, 1)), (16, (.goto 11, 3)), (19, (.aload_n 0, 1)), (20, (.getfield 19, 3)), (23, (.iload_n 1, 1)), (24, (.iaload, 1)), (25, (.iconst 2, 1)), (26, (.idiv, 1)), (27, (.ireturn, 1))]
theorem k_Z_costOf : i_Z_costOf.all (fun q => decide (decode b_Z_costOf q.1 = .ok q.2)) = true := by decide +kernel

set_option maxHeartbeats 1000000 in
set_option maxRecDepth 20000 in
theorem c_Z_costOf (l : Launch) (G : GE) (σ : Wd) (π : PL) (t p : Nat) (hπ : PlM σ π) (ok : PLok π) (ht : t < pN π) (hp : p < 5) : Ct l G y_Z_costOf b_Z_costOf 3 (some (.int)) 0 0 [vR 128, vI (t : Int), vI (p : Int)] σ (Dt (some (vI (swc π t p))) σ) := by
  refine Ct.of cm_Z_costOf (Nat.le_of_ble_eq_true rfl) ?_
  intro X hXl hXG hXN hRm C E
  subst hXl; subst hXG
  show V X 0 [some (vR 128), some (vI (t : Int)), some (vI (p : Int))] [] σ
  refine V_R (fun hR => ?_)
  have hπ0 := hπ
  obtain ⟨e0, e1, e2, e3, eT, eX⟩ := hπ
  have ⟨k1, k2, k3, k4, k5, k6, kT, kX⟩ := ok
  obtain ⟨gO, gK, gU⟩ := eT t (by omega) (by omega)
  obtain ⟨kO0, kO1, kK0, kK1, kU0, kU1⟩ := kT t (by omega) (by omega)
  refine V_aload_n (pc := 0) C (dk k_Z_costOf 0 rfl) rfl ?_
  refine V_getr (pc := 1) (o2 := 130) C (dk k_Z_costOf 1 rfl) fl_Z_13 kq_128 (by decide) rfl (by decide) rfl ?_
  refine V_iload_n (pc := 4) C (dk k_Z_costOf 2 rfl) rfl ?_
  refine V_iald (pc := 5) C (dk k_Z_costOf 3 rfl) kq_130 (by decide) (by omega) (by omega) ?_
  rw [gO]
  refine V_iload_n (pc := 6) C (dk k_Z_costOf 4 rfl) rfl ?_
  refine V_icmpne (pc := 7) C (dk k_Z_costOf 5 rfl) 19 rfl (by first | exact hR _ _ | with_reducible assumption | exact ⟨by omega, by omega⟩) (by first | exact hR _ _ | with_reducible assumption | exact ⟨by omega, by omega⟩) (fun h1 => ?_) (fun h1 => ?_)
  · skip
    refine V_aload_n (pc := 19) C (dk k_Z_costOf 11 rfl) rfl ?_
    refine V_getr (pc := 20) (o2 := 132) C (dk k_Z_costOf 12 rfl) fl_Z_19 kq_128 (by decide) rfl (by decide) rfl ?_
    refine V_iload_n (pc := 23) C (dk k_Z_costOf 13 rfl) rfl ?_
    refine V_iald (pc := 24) C (dk k_Z_costOf 14 rfl) kq_132 (by decide) (by omega) (by omega) ?_
    refine V_iconst (pc := 25) C (dk k_Z_costOf 15 rfl) rfl ?_
    rw [gU]
    refine V_idiv (pc := 26) C (dk k_Z_costOf 16 rfl) (by first | exact hR _ _ | with_reducible assumption | exact ⟨by omega, by omega⟩) (by first | exact hR _ _ | with_reducible assumption | exact ⟨by omega, by omega⟩) (by omega) (by omega) ?_
    refine V_iret (pc := 27) C E (dk k_Z_costOf 17 rfl) ?_
    unfold swc
    first | (rw [if_pos (by omega), gU]; exact ⟨rfl, rfl⟩) | (rw [if_pos (by omega)]; exact ⟨rfl, rfl⟩) | (rw [if_neg (by omega)]; exact ⟨rfl, rfl⟩)
  · skip
    refine V_aload_n (pc := 10) C (dk k_Z_costOf 6 rfl) rfl ?_
    refine V_getr (pc := 11) (o2 := 132) C (dk k_Z_costOf 7 rfl) fl_Z_19 kq_128 (by decide) rfl (by decide) rfl ?_
    refine V_iload_n (pc := 14) C (dk k_Z_costOf 8 rfl) rfl ?_
    refine V_iald (pc := 15) C (dk k_Z_costOf 9 rfl) kq_132 (by decide) (by omega) (by omega) ?_
    refine V_goto (pc := 16) C (dk k_Z_costOf 10 rfl) 27 rfl ?_
    refine V_iret (pc := 27) C E (dk k_Z_costOf 17 rfl) ?_
    unfold swc
    first | (rw [if_pos (by omega), gU]; exact ⟨rfl, rfl⟩) | (rw [if_pos (by omega)]; exact ⟨rfl, rfl⟩) | (rw [if_neg (by omega)]; exact ⟨rfl, rfl⟩)

def i_Z_setCosts : List (Nat × (Instr × Nat)) := [(0, (.aload_n 0, 1)), (1, (.iconst 0, 1)), (2, (.putfield 233, 3)), (5, (.iconst 0, 1)), (6, (.istore_n 1, 1)), (7, (.iload_n 1, 1)), (8, (.aload_n 0, 1)), (9, (.getfield 73, 3)), (12, (.if_icmp .ge 64, 3)), (15, (.iconst 0, 1)), (16, (.istore_n 2, 1)), (17, (.iload_n 2, 1)), (18, (.aload_n 0, 1)), (19, (.getfield 81, 3)), (22, (.if_icmp .ge 48, 3)), (25, (.aload_n 0, 1)), (26, (.getfield 31, 3)), (29, (.iload_n 2, 1)), (30, (.iaload, 1)), (31, (.ifCond .ne 33, 3)), (34, (.aload_n 0, 1)), (35, (.getfield 13, 3)), (38, (.iload_n 2, 1)), (39, (.iaload, 1)), (40, (.iload_n 1, 1)), (41, (.if_icmp .ne 23, 3)), (44, (.aload_n 0, 1)), (45, (.getfield 61, 3)), (48, (.aload_n 0, 1)), (49, (.getfield 233, 3)), (52, (.iload_n 1, 1)), (53, (.iastore, 1)), (54, (.aload_n 0, 1)), (55, (.dup, 1)), (56, (.getfield 233, 3)), (59, (.iconst 1, 1)), (60, (.iadd, 1)), (61, (.putfield 233, 3)), (64, (.iinc 2 1, 3)), (67, (.goto (-50), 3)), (70, (.iinc 1 1, 3)), (73, (.goto (-66), 3)), (76, (.iconst 0, 1)), (77, (.istore_n 1, 1)), (78, (.iconst 0, 1)), (79, (.istore_n 2, 1)), (80, (.iload_n 2, 1)), (81, (.aload_n 0, 1)), (82, (.getfield 81, 3)), (85, (.if_icmp .ge 28, 3)), (88, (.aload_n 0, 1)), (89, (.getfield 31, 3)), (92, (.iload_n 2, 1)), (93, (.iaload, 1)), (94, (.ifCond .ne 13, 3)), (97, (.aload_n 0, 1)), (98, (.getfield 64, 3)), (101, (.iload_n 1, 1)), (102, (.iload_n 2, 1)), (103, (.iastore, 1)), (104, (.iinc 1 1, 3)), (107, (.iinc 2 1, 3)), (110, (.goto (-30), 3)), (113, (.iconst 1, 1)), (114, (.aload_n 0, 1)), (115, (.getfield 233, 3)), (118, (.ishl, 1)), (119, (.iconst 1, 1)), (120, (.isub, 1)), (121, (.istore_n 2, 1)), (122, (.aload_n 0, 1)), (123, (.getfield 67, 3)), (126, (.iload_n 2, 1)), (127, (.iconst 0, 1)), (128, (.iastore, 1)), (129, (.iload_n 2, 1)), (130, (.iconst 1, 1)), (131, (.isub, 1)), (132, (.istore_n 3, 1)), (133, (.iload_n 3, 1)), (134, (.ifCond .lt 107, 3)), (137, (.aload_n 0, 1)), (138, (.getfield 64, 3)), (141, (.iload_n 3, 1)), (142, (.invokestatic 236, 3)), (145, (.iaload, 1)), (146, (.istore 4, 2)), (148, (.ldc 228, 2)), (150, (.istore 5, 2)), (152, (.iconst 0, 1)), (153, (.istore 6, 2)), (155, (.iload 6, 2)), (157, (.aload_n 0, 1)), (158, (.getfield 233, 3)), (161, (.if_icmp .ge 66, 3)), (164, (.iload_n 3, 1)), (165, (.iload 6, 2)), (167, (.invokestatic 221, 3)), (170, (.ifCond .eq 8, 3)), (173, (.ldc 228, 2)), (175, (.goto 28, 3)), (178, (.aload_n 0, 1)), (179, (.iload 4, 2)), (181, (.aload_n 0, 1)), (182, (.getfield 61, 3)), (185, (.iload 6, 2)), (187, (.iaload, 1)), (188, (.invokevirtual 239, 3)), (191, (.aload_n 0, 1)), (192, (.getfield 67, 3)), (195, (.iload_n 3, 1)), (196, (.iconst 1, 1)), (197, (.iload 6, 2)), (199, (.ishl, 1)), (200, (.ior, 1)), (201, (.iaload, 1)), (202, (.iadd, 1)), (203, (.istore 7, 2)), (205, (.iload 7, 2)), (207, (.iload 5, 2)), (209, (.if_icmp .ge 8, 3)), (212, (.iload 7, 2)), (214, (.goto 5, 3)), (217, (.iload 5, 2)), (219, (.istore 5, 2)), (221, (.iinc 6 1, 3)), (224, (.goto (-69), 3)), (227, (.aload_n 0, 1)), (228, (.getfield 67, 3)), (231, (.iload_n 3, 1)), (232, (.iload 5, 2)), (234, (.iastore, 1)), (235, (.iinc 3 (-1), 3)), (238, (.goto (-105), 3)), (241, (.return_, 1))]
theorem k_Z_setCosts : i_Z_setCosts.all (fun q => decide (decode b_Z_setCosts q.1 = .ok q.2)) = true := by decide +kernel

set_option maxHeartbeats 3000000 in
set_option maxRecDepth 20000 in
theorem c_Z_setCosts (l : Launch) (G : GE) (σ : Wd) (π : PL) (x : ST) (j : Int) (hπ : PlM σ π) (ok : PLok π) (hx : StM σ π x) (xk : STok π x j) (hj : j ≤ 200) (q : Nat → Nat) (ms sl : List Nat) (hq : q = qO π x) (hms : ms = msO π x) (hsl : sl = swS q (pP π)) : Ct l G y_Z_setCosts b_Z_setCosts 8 (none) 1 22 [vR 128] σ (Rt none (fun σ' => SlR σ' sl ∧ InR σ' ms ∧ (∀ b : Nat, b < 2 ^ ms.length → σ' 148 b = swK π ms sl b) ∧ FrS σ σ')) := by
  refine Ct.of cm_Z_setCosts (Nat.le_of_ble_eq_true rfl) ?_
  intro X hXl hXG hXN hRm C E
  subst hXl; subst hXG
  show V X 0 [some (vR 128), none, none, none, none, none, none, none] [] σ
  refine V_R (fun hR => ?_)
  have hπ0 := hπ
  obtain ⟨e0, e1, e2, e3, eT, eX⟩ := hπ
  have ⟨k1, k2, k3, k4, k5, k6, kT, kX⟩ := ok
  have hx0 := hx
  obtain ⟨f0, f1, fQ, fT⟩ := hx
  have ⟨x1, x2, x3, x4, xQ, xT⟩ := xk
  have hSK : SwK π q ms sl := by rw [hsl, hq, hms]; exact SwK.of ok x
  obtain ⟨K1, K2, K3, K4, K5, K6, K7⟩ := id hSK.1
  have hsl5 := hSK.2.2.1
  have hsll := hSK.2.1
  have ⟨p0, p1⟩ := p2N K2
  have hKb := swK_b hSK
  refine V_aload_n (pc := 0) C (dk k_Z_setCosts 0 rfl) rfl ?_
  refine V_iconst (pc := 1) C (dk k_Z_setCosts 1 rfl) rfl ?_
  refine V_puti (pc := 2) (ji := 33) C (dk k_Z_setCosts 2 rfl) fl_Z_233 fw_9_33 kq_128 (by decide) rfl rfl R0 ?_
  refine V_R (fun hR => ?_)
  refine V_iconst (pc := 5) C (dk k_Z_setCosts 3 rfl) rfl ?_
  refine V_istore_n (pc := 6) C (dk k_Z_setCosts 4 rfl) (by rw [hXN]; decide) ?_
  dsimp only [lst, lstL, lz, kill, Fin.val, Nat.reduceAdd]
  refine V_eq (V_loop (fun z : Nat × Wd => z.1 ≤ pP π ∧ SlR z.2 (swS q z.1) ∧ FrS σ z.2) (fun z => [some (vR 128), some (vI (z.1 : Int)), none, none, none, none, none, none]) (fun z => z.2) (fun z => pP π - z.1) (fun z hz ihA => ?_) (0, up σ 128 33 0) ⟨Nat.zero_le _, ⟨(show up σ 128 33 0 128 33 = 0 from up_at _ _ _ _), fun i a e => by simp [swS] at e⟩, (FrS.rf σ).up 128 _ _ (by omega)⟩) rfl rfl rfl
  obtain ⟨p, ρA⟩ := z
  obtain ⟨hp, hSA, hFA⟩ := hz
  dsimp only at hp hSA hFA ihA ⊢
  refine V_R (fun hR => ?_)
  refine V_iload_n (pc := 7) C (dk k_Z_setCosts 5 rfl) rfl ?_
  refine V_aload_n (pc := 8) C (dk k_Z_setCosts 6 rfl) rfl ?_
  refine V_geti (pc := 9) (ji := 0) C (dk k_Z_setCosts 7 rfl) fl_Z_73 kq_128 (by decide) rfl rfl ?_
  rw [hFA 128 0 (by omega) (by omega), e0]
  refine V_icmpge (pc := 12) C (dk k_Z_setCosts 8 rfl) 76 rfl (by first | exact hR _ _ | with_reducible assumption | exact ⟨by omega, by omega⟩) (by first | exact hR _ _ | with_reducible assumption | exact ⟨by omega, by omega⟩) (fun h1 => ?_) (fun h1 => ?_)
  · skip
    obtain rfl : p = pP π := by omega
    rw [← hsl] at hSA
    refine V_iconst (pc := 76) C (dk k_Z_setCosts 42 rfl) rfl ?_
    refine V_istore_n (pc := 77) C (dk k_Z_setCosts 43 rfl) (by rw [hXN]; decide) ?_
    dsimp only [lst, lstL, lz, kill, Fin.val, Nat.reduceAdd]
    refine V_iconst (pc := 78) C (dk k_Z_setCosts 44 rfl) rfl ?_
    refine V_istore_n (pc := 79) C (dk k_Z_setCosts 45 rfl) (by rw [hXN]; decide) ?_
    dsimp only [lst, lstL, lz, kill, Fin.val, Nat.reduceAdd]
    refine V_eq (V_loop (fun z : Nat × Wd => z.1 ≤ pN π ∧ InR z.2 (swM x z.1) ∧ SlR z.2 sl ∧ FrS σ z.2) (fun z => [some (vR 128), some (vI ((swM x z.1).length : Int)), some (vI (z.1 : Int)), none, none, none, none, none]) (fun z => z.2) (fun z => pN π - z.1) (fun z hz ihC => ?_) (0, ρA) ⟨Nat.zero_le _, fun i a e => by simp [swM] at e, hSA, hFA⟩) rfl rfl rfl
    obtain ⟨t, ρ⟩ := z
    obtain ⟨ht, hI, hS, hF⟩ := hz
    dsimp only at ht hI hS hF ihC ⊢
    refine V_R (fun hR => ?_)
    have hml := swM_len x t
    refine V_iload_n (pc := 80) C (dk k_Z_setCosts 46 rfl) rfl ?_
    refine V_aload_n (pc := 81) C (dk k_Z_setCosts 47 rfl) rfl ?_
    refine V_geti (pc := 82) (ji := 1) C (dk k_Z_setCosts 48 rfl) fl_Z_81 kq_128 (by decide) rfl rfl ?_
    rw [hF 128 1 (by omega) (by omega), e1]
    refine V_icmpge (pc := 85) C (dk k_Z_setCosts 49 rfl) 113 rfl (by first | exact hR _ _ | with_reducible assumption | exact ⟨by omega, by omega⟩) (by first | exact hR _ _ | with_reducible assumption | exact ⟨by omega, by omega⟩) (fun h2 => ?_) (fun h2 => ?_)
    · skip
      obtain rfl : t = pN π := by omega
      have hI : InR ρ ms := by rw [hms]; exact hI
      have hn : ((swM x (pN π)).length : Int) = (ms.length : Int) := by rw [hms]
      rw [hn]
      refine V_iconst (pc := 113) C (dk k_Z_setCosts 63 rfl) rfl ?_
      refine V_aload_n (pc := 114) C (dk k_Z_setCosts 64 rfl) rfl ?_
      refine V_geti (pc := 115) (ji := 33) C (dk k_Z_setCosts 65 rfl) fl_Z_233 kq_128 (by decide) rfl rfl ?_
      rw [hS.1, hsll]
      refine V_ishl (pc := 118) C (dk k_Z_setCosts 66 rfl) (by omega) (by omega) (by omega) (by rw [p2I]; omega) ?_
      rw [p2I]
      refine V_iconst (pc := 119) C (dk k_Z_setCosts 67 rfl) rfl ?_
      refine V_isub (pc := 120) C (dk k_Z_setCosts 68 rfl) ?_
      rw [show ((2 ^ ms.length : Nat) : Int) - 1 = ((2 ^ ms.length - 1 : Nat) : Int) by omega]
      refine V_istore_n (pc := 121) C (dk k_Z_setCosts 69 rfl) (by rw [hXN]; decide) ?_
      dsimp only [lst, lstL, lz, kill, Fin.val, Nat.reduceAdd]
      refine V_aload_n (pc := 122) C (dk k_Z_setCosts 70 rfl) rfl ?_
      refine V_getr (pc := 123) (o2 := 148) C (dk k_Z_setCosts 71 rfl) fl_Z_67 kq_128 (by decide) rfl (by decide) rfl ?_
      refine V_iload_n (pc := 126) C (dk k_Z_setCosts 72 rfl) rfl ?_
      refine V_iconst (pc := 127) C (dk k_Z_setCosts 73 rfl) rfl ?_
      refine V_iast (pc := 128) C (dk k_Z_setCosts 74 rfl) kq_148 (by decide) (by omega) (by omega) R0 ?_
      refine V_R (fun hR => ?_)
      refine V_R (fun hR => ?_)
      have hall : swK π ms sl (2 ^ ms.length - 1) = 0 := by unfold swK; rw [swb_all ms.length 0 (fun j a c => by rw [Nat.testBit_two_pow_sub_one]; exact decide_eq_true (by omega)), List.drop_length]; rfl
      refine V_iload_n (pc := 129) C (dk k_Z_setCosts 75 rfl) rfl ?_
      refine V_iconst (pc := 130) C (dk k_Z_setCosts 76 rfl) rfl ?_
      refine V_isub (pc := 131) C (dk k_Z_setCosts 77 rfl) ?_
      refine V_istore_n (pc := 132) C (dk k_Z_setCosts 78 rfl) (by rw [hXN]; decide) ?_
      dsimp only [lst, lstL, lz, kill, Fin.val, Nat.reduceAdd]
      refine V_eq (V_loop (fun z : Nat × Wd => z.1 ≤ 2 ^ ms.length - 1 ∧ (∀ c : Nat, z.1 ≤ c → c < 2 ^ ms.length → z.2 148 c = swK π ms sl c) ∧ (∀ (k : Nat) (i : Int), k ≠ 148 → z.2 k i = ρ k i)) (fun z => [some (vR 128), some (vI (ms.length : Int)), some (vI ((2 ^ ms.length - 1 : Nat) : Int)), some (vI ((z.1 : Int) - 1)), none, none, none, none]) (fun z => z.2) (fun z => z.1) (fun z hz ihD => ?_) (2 ^ ms.length - 1, up ρ 148 ((2 ^ ms.length - 1 : Nat) : Int) 0) ⟨Nat.le_refl _, fun c a d => by dsimp only at a ⊢; obtain rfl : c = 2 ^ ms.length - 1 := (by omega); rw [up_at, hall], fun k i a => up_ne1 _ _ _ _ a⟩) rfl rfl rfl
      obtain ⟨b1, ρ2⟩ := z
      obtain ⟨hb1, htb, hfb⟩ := hz
      dsimp only at hb1 htb hfb ihD ⊢
      refine V_R (fun hR => ?_)
      refine V_iload_n (pc := 133) C (dk k_Z_setCosts 79 rfl) rfl ?_
      refine V_iflt (pc := 134) C (dk k_Z_setCosts 80 rfl) 241 rfl (by first | exact hR _ _ | with_reducible assumption | exact ⟨by omega, by omega⟩) (fun h3 => ?_) (fun h3 => ?_)
      · skip
        refine V_vret (pc := 241) C E (dk k_Z_setCosts 134 rfl) ?_
        obtain rfl : b1 = 0 := by omega
        exact ⟨rfl, ⟨(hfb 128 33 (by decide)).trans hS.1, fun i a e => (hfb 146 i (by decide)).trans (hS.2 i a e)⟩, fun i a e => (hfb 147 i (by decide)).trans (hI i a e), fun b hb => htb b (Nat.zero_le _) hb, fun k i a c => (hfb k i (by omega)).trans (hF k i a c)⟩
      · skip
        obtain ⟨b, rfl⟩ : ∃ b, b1 = b + 1 := ⟨b1 - 1, by omega⟩
        rw [show ((b + 1 : Nat) : Int) - 1 = (b : Int) by omega]
        obtain ⟨t, ts, hd, hs, htm, hU, hcn⟩ := swK_d hSK (show b < 2 ^ ms.length - 1 by omega)
        have htn := K5 t htm
        have f3 : FrS σ ρ2 := fun k i a c => (hfb k i (by omega)).trans (hF k i a c)
        have hlb := swl_n (c := swC π t ts (swr sl 0 b)) (sl := sl) (b := b)
        refine V_aload_n (pc := 137) C (dk k_Z_setCosts 81 rfl) rfl ?_
        refine V_getr (pc := 138) (o2 := 147) C (dk k_Z_setCosts 82 rfl) fl_Z_64 kq_128 (by decide) rfl (by decide) rfl ?_
        refine V_iload_n (pc := 141) C (dk k_Z_setCosts 83 rfl) rfl ?_
        refine V_callS (pc := 142) C (dk k_Z_setCosts 84 rfl) lk_Z_236 cm_Z_bits sm_Z_bits (c_Z_bits _ _ _ b (by omega)) rfl rfl (Nat.le_of_ble_eq_true rfl) (Rm.mono hRm (by decide) (by decide)) ?_
        rw [cnt_8 (show b < 2 ^ ms.length by omega) K2]
        refine V_iald (pc := 145) C (dk k_Z_setCosts 85 rfl) kq_147 (by decide) (by omega) (by omega) ?_
        rw [hfb 147 _ (by decide), hI _ t (drop_at hd).1]
        refine V_istore (pc := 146) C (dk k_Z_setCosts 86 rfl) (by rw [hXN]; decide) ?_
        dsimp only [lst, lstL, lz, kill, Fin.val, Nat.reduceAdd]
        refine V_ldc (pc := 148) (n' := 1048576) C (dk k_Z_setCosts 87 rfl) kc_Z_228 rfl ?_
        refine V_istore (pc := 150) C (dk k_Z_setCosts 88 rfl) (by rw [hXN]; decide) ?_
        dsimp only [lst, lstL, lz, kill, Fin.val, Nat.reduceAdd]
        refine V_iconst (pc := 152) C (dk k_Z_setCosts 89 rfl) rfl ?_
        refine V_istore (pc := 153) C (dk k_Z_setCosts 90 rfl) (by rw [hXN]; decide) ?_
        dsimp only [lst, lstL, lz, kill, Fin.val, Nat.reduceAdd]
        refine V_eq (V_loop (fun k : Nat => k ≤ ms.length) (fun k => [some (vR 128), some (vI (ms.length : Int)), some (vI ((2 ^ ms.length - 1 : Nat) : Int)), some (vI (b : Int)), some (vI (t : Int)), some (vI (swl (swC π t ts (swr sl 0 b)) sl b k)), some (vI (k : Int)), none]) (fun _ => ρ2) (fun k => ms.length - k) (fun k hk ihE => ?_) 0 (Nat.zero_le _)) rfl rfl rfl
        obtain ⟨y0, y1, y2, y3⟩ := swl_n (c := (swC π t ts (swr sl 0 b))) (sl := sl) (b := b) k (fun jj a d => by have := swC_b hSK hd hs hU (show jj < sl.length by omega) d; omega)
        refine V_iload (pc := 155) C (dk k_Z_setCosts 91 rfl) rfl ?_
        refine V_aload_n (pc := 157) C (dk k_Z_setCosts 92 rfl) rfl ?_
        refine V_geti (pc := 158) (ji := 33) C (dk k_Z_setCosts 93 rfl) fl_Z_233 kq_128 (by decide) rfl rfl ?_
        rw [hfb 128 33 (by decide), hS.1, hsll]
        refine V_icmpge (pc := 161) C (dk k_Z_setCosts 94 rfl) 227 rfl (by first | exact hR _ _ | with_reducible assumption | exact ⟨by omega, by omega⟩) (by first | exact hR _ _ | with_reducible assumption | exact ⟨by omega, by omega⟩) (fun h4 => ?_) (fun h4 => ?_)
        · skip
          obtain rfl : k = ms.length := by omega
          have hle := swl_e hSK hd hs hU
          rw [hsll] at hle
          have hKe : swL π (t :: ts) (swr sl 0 b) = swK π ms sl b := by unfold swK; rw [hd]
          rw [hle, hKe]
          have hKb2 := hKb b
          refine V_aload_n (pc := 227) C (dk k_Z_setCosts 127 rfl) rfl ?_
          refine V_getr (pc := 228) (o2 := 148) C (dk k_Z_setCosts 128 rfl) fl_Z_67 kq_128 (by decide) rfl (by decide) rfl ?_
          refine V_iload_n (pc := 231) C (dk k_Z_setCosts 129 rfl) rfl ?_
          refine V_iload (pc := 232) C (dk k_Z_setCosts 130 rfl) rfl ?_
          refine V_iast (pc := 234) C (dk k_Z_setCosts 131 rfl) kq_148 (by decide) (by omega) (by omega) ⟨by omega, by omega⟩ ?_
          refine V_R (fun hR => ?_)
          refine V_iinc (pc := 235) C (dk k_Z_setCosts 132 rfl) (by rw [hXN]; decide) rfl ?_
          dsimp only [lst, lstL, lz, kill, Fin.val, Nat.reduceAdd]
          refine V_goto (pc := 238) C (dk k_Z_setCosts 133 rfl) 133 rfl ?_
          refine V_fg 4 ?_
          dsimp only [fg]
          refine V_fg 5 ?_
          dsimp only [fg]
          refine V_fg 6 ?_
          dsimp only [fg]
          refine V_fg 7 ?_
          dsimp only [fg]
          refine V_eq (ihD (b, up ρ2 148 (b : Int) (swK π ms sl b)) ⟨by dsimp only; omega, fun c a d => ?_, fun k i a => (up_ne1 _ _ _ _ a).trans (hfb k i a)⟩ (by dsimp only; omega)) ?_ rfl rfl
          · dsimp only at a ⊢
            by_cases hcb : c = b
            · rw [hcb, up_at]
            · rw [up_ne2 _ (by omega)]; exact htb c (by omega) d
          · rfl
        · skip
          have hkk := p2lt (show k < ms.length by omega) K2
          have hkk2 : (0 : Int) ≤ ((2 ^ k : Nat) : Int) := Int.natCast_nonneg (2 ^ k)
          have hsk := slG (show k < sl.length by omega)
          have hk5 := hsl5 _ (List.mem_of_getElem? hsk)
          refine V_iload_n (pc := 164) C (dk k_Z_setCosts 95 rfl) rfl ?_
          refine V_iload (pc := 165) C (dk k_Z_setCosts 96 rfl) rfl ?_
          refine V_callS (pc := 167) C (dk k_Z_setCosts 97 rfl) lk_Z_221 cm_Z_has sm_Z_has (c_Z_has _ _ _ b k (by omega) (by omega)) rfl rfl (Nat.le_of_ble_eq_true rfl) (Rm.mono hRm (by decide) (by decide)) ?_
          refine V_ifeqB (pc := 170) C (dk k_Z_setCosts 98 rfl) 178 rfl (fun h5 => ?_) (fun h5 => ?_)
          · skip
            have hbf : b.testBit k = false := Bool.eq_false_iff.mpr (by assumption)
            obtain ⟨u1, u2, u3, u4⟩ := swC_b hSK hd hs hU (show k < sl.length by omega) hbf
            have hor := or_lt (show b < 2 ^ ms.length by omega) (show k < ms.length by omega)
            have hog := or_gt hbf
            obtain ⟨v1, v2⟩ := swK_s hSK hsk hbf hd
            refine V_aload_n (pc := 178) C (dk k_Z_setCosts 101 rfl) rfl ?_
            refine V_iload (pc := 179) C (dk k_Z_setCosts 102 rfl) rfl ?_
            refine V_aload_n (pc := 181) C (dk k_Z_setCosts 103 rfl) rfl ?_
            refine V_getr (pc := 182) (o2 := 146) C (dk k_Z_setCosts 104 rfl) fl_Z_61 kq_128 (by decide) rfl (by decide) rfl ?_
            refine V_iload (pc := 185) C (dk k_Z_setCosts 105 rfl) rfl ?_
            refine V_iald (pc := 187) C (dk k_Z_setCosts 106 rfl) kq_146 (by decide) (by omega) (by omega) ?_
            rw [hfb 146 _ (by decide), hS.2 k _ hsk]
            refine V_callV (pc := 188) C (dk k_Z_setCosts 107 rfl) lk_Z_239 cm_Z_costOf vm_Z_costOf (c_Z_costOf _ _ _ π t (sl.getD k 0) (hπ0.fx (fun k i a => f3 k i (by omega) (by omega))) ok htn hk5) kq_128 rfl rfl rfl (Nat.le_of_ble_eq_true rfl) (Rm.mono hRm (by decide) (by decide)) ?_
            refine V_aload_n (pc := 191) C (dk k_Z_setCosts 108 rfl) rfl ?_
            refine V_getr (pc := 192) (o2 := 148) C (dk k_Z_setCosts 109 rfl) fl_Z_67 kq_128 (by decide) rfl (by decide) rfl ?_
            refine V_iload_n (pc := 195) C (dk k_Z_setCosts 110 rfl) rfl ?_
            refine V_iconst (pc := 196) C (dk k_Z_setCosts 111 rfl) rfl ?_
            refine V_iload (pc := 197) C (dk k_Z_setCosts 112 rfl) rfl ?_
            refine V_ishl (pc := 199) C (dk k_Z_setCosts 113 rfl) (by omega) (by omega) (by omega) (by rw [p2I]; omega) ?_
            refine V_ior (pc := 200) C (dk k_Z_setCosts 114 rfl) ⟨by omega, by omega⟩ ⟨by rw [p2I]; omega, by rw [p2I]; omega⟩ (by omega) (by rw [p2I]; omega) ?_
            rw [orI]
            refine V_iald (pc := 201) C (dk k_Z_setCosts 115 rfl) kq_148 (by decide) (by omega) (by omega) ?_
            rw [htb _ (by omega) hor, v1]
            refine V_iadd (pc := 202) C (dk k_Z_setCosts 116 rfl) ?_
            try change V X _ _ [vI ((swC π t ts (swr sl 0 b)) (sl.getD k 0))] _
            refine V_istore (pc := 203) C (dk k_Z_setCosts 117 rfl) (by rw [hXN]; decide) ?_
            dsimp only [lst, lstL, lz, kill, Fin.val, Nat.reduceAdd]
            refine V_iload (pc := 205) C (dk k_Z_setCosts 118 rfl) rfl ?_
            refine V_iload (pc := 207) C (dk k_Z_setCosts 119 rfl) rfl ?_
            refine V_icmpge (pc := 209) C (dk k_Z_setCosts 120 rfl) 217 rfl (by first | exact hR _ _ | with_reducible assumption | exact ⟨by omega, by omega⟩) (by first | exact hR _ _ | with_reducible assumption | exact ⟨by omega, by omega⟩) (fun h6 => ?_) (fun h6 => ?_)
            · skip
              refine V_iload (pc := 217) C (dk k_Z_setCosts 123 rfl) rfl ?_
              refine V_istore (pc := 219) C (dk k_Z_setCosts 124 rfl) (by rw [hXN]; decide) ?_
              dsimp only [lst, lstL, lz, kill, Fin.val, Nat.reduceAdd]
              refine V_iinc (pc := 221) C (dk k_Z_setCosts 125 rfl) (by rw [hXN]; decide) rfl ?_
              dsimp only [lst, lstL, lz, kill, Fin.val, Nat.reduceAdd]
              refine V_goto (pc := 224) C (dk k_Z_setCosts 126 rfl) 155 rfl ?_
              refine V_fg 7 ?_
              dsimp only [fg]
              refine V_eq (ihE (k + 1) (by omega) (by omega)) ?_ rfl rfl
              rw [show swl (swC π t ts (swr sl 0 b)) sl b (k + 1) = if (if b.testBit k = true then 1048576 else (swC π t ts (swr sl 0 b)) (sl.getD k 0)) < swl (swC π t ts (swr sl 0 b)) sl b k then (if b.testBit k = true then 1048576 else (swC π t ts (swr sl 0 b)) (sl.getD k 0)) else swl (swC π t ts (swr sl 0 b)) sl b k from rfl]
              first | (rw [if_pos (show b.testBit k = true by assumption)]; first | (rw [if_pos (by omega)]; rfl) | (rw [if_neg (by omega)]; rfl)) | (rw [if_neg (show ¬ b.testBit k = true by assumption)]; first | (rw [if_pos (by omega)]; rfl) | (rw [if_neg (by omega)]; rfl))
            · skip
              refine V_iload (pc := 212) C (dk k_Z_setCosts 121 rfl) rfl ?_
              refine V_goto (pc := 214) C (dk k_Z_setCosts 122 rfl) 219 rfl ?_
              refine V_istore (pc := 219) C (dk k_Z_setCosts 124 rfl) (by rw [hXN]; decide) ?_
              dsimp only [lst, lstL, lz, kill, Fin.val, Nat.reduceAdd]
              refine V_iinc (pc := 221) C (dk k_Z_setCosts 125 rfl) (by rw [hXN]; decide) rfl ?_
              dsimp only [lst, lstL, lz, kill, Fin.val, Nat.reduceAdd]
              refine V_goto (pc := 224) C (dk k_Z_setCosts 126 rfl) 155 rfl ?_
              refine V_fg 7 ?_
              dsimp only [fg]
              refine V_eq (ihE (k + 1) (by omega) (by omega)) ?_ rfl rfl
              rw [show swl (swC π t ts (swr sl 0 b)) sl b (k + 1) = if (if b.testBit k = true then 1048576 else (swC π t ts (swr sl 0 b)) (sl.getD k 0)) < swl (swC π t ts (swr sl 0 b)) sl b k then (if b.testBit k = true then 1048576 else (swC π t ts (swr sl 0 b)) (sl.getD k 0)) else swl (swC π t ts (swr sl 0 b)) sl b k from rfl]
              first | (rw [if_pos (show b.testBit k = true by assumption)]; first | (rw [if_pos (by omega)]; rfl) | (rw [if_neg (by omega)]; rfl)) | (rw [if_neg (show ¬ b.testBit k = true by assumption)]; first | (rw [if_pos (by omega)]; rfl) | (rw [if_neg (by omega)]; rfl))
          · skip
            refine V_ldc (pc := 173) (n' := 1048576) C (dk k_Z_setCosts 99 rfl) kc_Z_228 rfl ?_
            refine V_goto (pc := 175) C (dk k_Z_setCosts 100 rfl) 203 rfl ?_
            try change V X _ _ [vI ((swC π t ts (swr sl 0 b)) (sl.getD k 0))] _
            refine V_istore (pc := 203) C (dk k_Z_setCosts 117 rfl) (by rw [hXN]; decide) ?_
            dsimp only [lst, lstL, lz, kill, Fin.val, Nat.reduceAdd]
            refine V_iload (pc := 205) C (dk k_Z_setCosts 118 rfl) rfl ?_
            refine V_iload (pc := 207) C (dk k_Z_setCosts 119 rfl) rfl ?_
            refine V_icmpge (pc := 209) C (dk k_Z_setCosts 120 rfl) 217 rfl (by first | exact hR _ _ | with_reducible assumption | exact ⟨by omega, by omega⟩) (by first | exact hR _ _ | with_reducible assumption | exact ⟨by omega, by omega⟩) (fun h7 => ?_) (fun h7 => ?_)
            · skip
              refine V_iload (pc := 217) C (dk k_Z_setCosts 123 rfl) rfl ?_
              refine V_istore (pc := 219) C (dk k_Z_setCosts 124 rfl) (by rw [hXN]; decide) ?_
              dsimp only [lst, lstL, lz, kill, Fin.val, Nat.reduceAdd]
              refine V_iinc (pc := 221) C (dk k_Z_setCosts 125 rfl) (by rw [hXN]; decide) rfl ?_
              dsimp only [lst, lstL, lz, kill, Fin.val, Nat.reduceAdd]
              refine V_goto (pc := 224) C (dk k_Z_setCosts 126 rfl) 155 rfl ?_
              refine V_fg 7 ?_
              dsimp only [fg]
              refine V_eq (ihE (k + 1) (by omega) (by omega)) ?_ rfl rfl
              rw [show swl (swC π t ts (swr sl 0 b)) sl b (k + 1) = if (if b.testBit k = true then 1048576 else (swC π t ts (swr sl 0 b)) (sl.getD k 0)) < swl (swC π t ts (swr sl 0 b)) sl b k then (if b.testBit k = true then 1048576 else (swC π t ts (swr sl 0 b)) (sl.getD k 0)) else swl (swC π t ts (swr sl 0 b)) sl b k from rfl]
              first | (rw [if_pos (show b.testBit k = true by assumption)]; first | (rw [if_pos (by omega)]; rfl) | (rw [if_neg (by omega)]; rfl)) | (rw [if_neg (show ¬ b.testBit k = true by assumption)]; first | (rw [if_pos (by omega)]; rfl) | (rw [if_neg (by omega)]; rfl))
            · skip
              refine V_iload (pc := 212) C (dk k_Z_setCosts 121 rfl) rfl ?_
              refine V_goto (pc := 214) C (dk k_Z_setCosts 122 rfl) 219 rfl ?_
              refine V_istore (pc := 219) C (dk k_Z_setCosts 124 rfl) (by rw [hXN]; decide) ?_
              dsimp only [lst, lstL, lz, kill, Fin.val, Nat.reduceAdd]
              refine V_iinc (pc := 221) C (dk k_Z_setCosts 125 rfl) (by rw [hXN]; decide) rfl ?_
              dsimp only [lst, lstL, lz, kill, Fin.val, Nat.reduceAdd]
              refine V_goto (pc := 224) C (dk k_Z_setCosts 126 rfl) 155 rfl ?_
              refine V_fg 7 ?_
              dsimp only [fg]
              refine V_eq (ihE (k + 1) (by omega) (by omega)) ?_ rfl rfl
              rw [show swl (swC π t ts (swr sl 0 b)) sl b (k + 1) = if (if b.testBit k = true then 1048576 else (swC π t ts (swr sl 0 b)) (sl.getD k 0)) < swl (swC π t ts (swr sl 0 b)) sl b k then (if b.testBit k = true then 1048576 else (swC π t ts (swr sl 0 b)) (sl.getD k 0)) else swl (swC π t ts (swr sl 0 b)) sl b k from rfl]
              first | (rw [if_pos (show b.testBit k = true by assumption)]; first | (rw [if_pos (by omega)]; rfl) | (rw [if_neg (by omega)]; rfl)) | (rw [if_neg (show ¬ b.testBit k = true by assumption)]; first | (rw [if_pos (by omega)]; rfl) | (rw [if_neg (by omega)]; rfl))
    · skip
      obtain ⟨xN0, xN1, xP0, xP1, xPN⟩ := xT t (by omega) (by omega)
      obtain ⟨gN, gP⟩ := fT t (by omega) (by omega)
      refine V_aload_n (pc := 88) C (dk k_Z_setCosts 50 rfl) rfl ?_
      refine V_getr (pc := 89) (o2 := 136) C (dk k_Z_setCosts 51 rfl) fl_Z_31 kq_128 (by decide) rfl (by decide) rfl ?_
      refine V_iload_n (pc := 92) C (dk k_Z_setCosts 52 rfl) rfl ?_
      refine V_iald (pc := 93) C (dk k_Z_setCosts 53 rfl) kq_136 (by decide) (by omega) (by omega) ?_
      rw [hF 136 t (by omega) (by omega), gP]
      refine V_ifne (pc := 94) C (dk k_Z_setCosts 54 rfl) 107 rfl (by first | exact hR _ _ | with_reducible assumption | exact ⟨by omega, by omega⟩) (fun h8 => ?_) (fun h8 => ?_)
      · skip
        refine V_iinc (pc := 107) C (dk k_Z_setCosts 61 rfl) (by rw [hXN]; decide) rfl ?_
        dsimp only [lst, lstL, lz, kill, Fin.val, Nat.reduceAdd]
        refine V_goto (pc := 110) C (dk k_Z_setCosts 62 rfl) 80 rfl ?_
        first | (have eM : swM x (t + 1) = swM x t := if_neg (by omega)) | (have eM : swM x (t + 1) = swM x t ++ [t] := if_pos (by omega))
        first | (refine V_eq (ihC (t + 1, ρ) ⟨by dsimp only; omega, by dsimp only; rw [eM]; exact hI, hS, hF⟩ (by dsimp only; omega)) ?_ rfl rfl; dsimp only; rw [eM]; rfl) | (refine V_eq (ihC (t + 1, up ρ 147 ((swM x t).length : Int) (t : Int)) ⟨by dsimp only; omega, by dsimp only; rw [eM]; exact hI.add t, ⟨(show up ρ 147 ((swM x t).length : Int) (t : Int) 128 33 = (sl.length : Int) from (up_ne1 _ _ _ _ (by decide)).trans hS.1), fun i a e => (show up ρ 147 ((swM x t).length : Int) (t : Int) 146 (i : Int) = (a : Int) from (up_ne1 _ _ _ _ (by decide)).trans (hS.2 i a e))⟩, hF.up 147 _ _ (by omega)⟩ (by dsimp only; omega)) ?_ rfl rfl; dsimp only; rw [eM, List.length_append]; rfl)
      · skip
        refine V_aload_n (pc := 97) C (dk k_Z_setCosts 55 rfl) rfl ?_
        refine V_getr (pc := 98) (o2 := 147) C (dk k_Z_setCosts 56 rfl) fl_Z_64 kq_128 (by decide) rfl (by decide) rfl ?_
        refine V_iload_n (pc := 101) C (dk k_Z_setCosts 57 rfl) rfl ?_
        refine V_iload_n (pc := 102) C (dk k_Z_setCosts 58 rfl) rfl ?_
        refine V_iast (pc := 103) C (dk k_Z_setCosts 59 rfl) kq_147 (by decide) (by omega) (by omega) ⟨by omega, by omega⟩ ?_
        refine V_R (fun hR => ?_)
        refine V_iinc (pc := 104) C (dk k_Z_setCosts 60 rfl) (by rw [hXN]; decide) rfl ?_
        dsimp only [lst, lstL, lz, kill, Fin.val, Nat.reduceAdd]
        refine V_iinc (pc := 107) C (dk k_Z_setCosts 61 rfl) (by rw [hXN]; decide) rfl ?_
        dsimp only [lst, lstL, lz, kill, Fin.val, Nat.reduceAdd]
        refine V_goto (pc := 110) C (dk k_Z_setCosts 62 rfl) 80 rfl ?_
        first | (have eM : swM x (t + 1) = swM x t := if_neg (by omega)) | (have eM : swM x (t + 1) = swM x t ++ [t] := if_pos (by omega))
        first | (refine V_eq (ihC (t + 1, ρ) ⟨by dsimp only; omega, by dsimp only; rw [eM]; exact hI, hS, hF⟩ (by dsimp only; omega)) ?_ rfl rfl; dsimp only; rw [eM]; rfl) | (refine V_eq (ihC (t + 1, up ρ 147 ((swM x t).length : Int) (t : Int)) ⟨by dsimp only; omega, by dsimp only; rw [eM]; exact hI.add t, ⟨(show up ρ 147 ((swM x t).length : Int) (t : Int) 128 33 = (sl.length : Int) from (up_ne1 _ _ _ _ (by decide)).trans hS.1), fun i a e => (show up ρ 147 ((swM x t).length : Int) (t : Int) 146 (i : Int) = (a : Int) from (up_ne1 _ _ _ _ (by decide)).trans (hS.2 i a e))⟩, hF.up 147 _ _ (by omega)⟩ (by dsimp only; omega)) ?_ rfl rfl; dsimp only; rw [eM, List.length_append]; rfl)
  · skip
    refine V_iconst (pc := 15) C (dk k_Z_setCosts 9 rfl) rfl ?_
    refine V_istore_n (pc := 16) C (dk k_Z_setCosts 10 rfl) (by rw [hXN]; decide) ?_
    dsimp only [lst, lstL, lz, kill, Fin.val, Nat.reduceAdd]
    refine V_eq (V_loop (fun z : Nat × Wd => z.1 ≤ pN π ∧ SlR z.2 (swS q p ++ List.replicate (swQ π x z.1 p) p) ∧ FrS σ z.2) (fun z => [some (vR 128), some (vI (p : Int)), some (vI (z.1 : Int)), none, none, none, none, none]) (fun z => z.2) (fun z => pN π - z.1) (fun z hz ih => ?_) (0, ρA) ⟨Nat.zero_le _, by dsimp only; rw [show swQ π x 0 p = 0 from rfl, List.replicate_zero, List.append_nil]; exact hSA, hFA⟩) rfl rfl rfl
    obtain ⟨t, ρ⟩ := z
    obtain ⟨ht, hS, hF⟩ := hz
    dsimp only at ht hS hF ih ⊢
    refine V_R (fun hR => ?_)
    have hSl := hS.1
    rw [List.length_append, List.length_replicate, swS_len] at hSl
    refine V_iload_n (pc := 17) C (dk k_Z_setCosts 11 rfl) rfl ?_
    refine V_aload_n (pc := 18) C (dk k_Z_setCosts 12 rfl) rfl ?_
    refine V_geti (pc := 19) (ji := 1) C (dk k_Z_setCosts 13 rfl) fl_Z_81 kq_128 (by decide) rfl rfl ?_
    rw [hF 128 1 (by omega) (by omega), e1]
    refine V_icmpge (pc := 22) C (dk k_Z_setCosts 14 rfl) 70 rfl (by first | exact hR _ _ | with_reducible assumption | exact ⟨by omega, by omega⟩) (by first | exact hR _ _ | with_reducible assumption | exact ⟨by omega, by omega⟩) (fun h9 => ?_) (fun h9 => ?_)
    · skip
      refine V_iinc (pc := 70) C (dk k_Z_setCosts 40 rfl) (by rw [hXN]; decide) rfl ?_
      dsimp only [lst, lstL, lz, kill, Fin.val, Nat.reduceAdd]
      refine V_goto (pc := 73) C (dk k_Z_setCosts 41 rfl) 7 rfl ?_
      refine V_fg 2 ?_
      dsimp only [fg]
      obtain rfl : t = pN π := by omega
      exact ihA (p + 1, ρ) ⟨by dsimp only; omega, by dsimp only; rw [swS, hq]; rw [hq] at hS; exact hS, hF⟩ (by dsimp only; omega)
    · skip
      obtain ⟨xN0, xN1, xP0, xP1, xPN⟩ := xT t (by omega) (by omega)
      obtain ⟨gN, gP⟩ := fT t (by omega) (by omega)
      obtain ⟨gO, gK, gU⟩ := eT t (by omega) (by omega)
      obtain ⟨kO0, kO1, kK0, kK1, kU0, kU1⟩ := kT t (by omega) (by omega)
      refine V_aload_n (pc := 25) C (dk k_Z_setCosts 15 rfl) rfl ?_
      refine V_getr (pc := 26) (o2 := 136) C (dk k_Z_setCosts 16 rfl) fl_Z_31 kq_128 (by decide) rfl (by decide) rfl ?_
      refine V_iload_n (pc := 29) C (dk k_Z_setCosts 17 rfl) rfl ?_
      refine V_iald (pc := 30) C (dk k_Z_setCosts 18 rfl) kq_136 (by decide) (by omega) (by omega) ?_
      rw [hF 136 t (by omega) (by omega), gP]
      refine V_ifne (pc := 31) C (dk k_Z_setCosts 19 rfl) 64 rfl (by first | exact hR _ _ | with_reducible assumption | exact ⟨by omega, by omega⟩) (fun h10 => ?_) (fun h10 => ?_)
      · skip
        refine V_iinc (pc := 64) C (dk k_Z_setCosts 38 rfl) (by rw [hXN]; decide) rfl ?_
        dsimp only [lst, lstL, lz, kill, Fin.val, Nat.reduceAdd]
        refine V_goto (pc := 67) C (dk k_Z_setCosts 39 rfl) 17 rfl ?_
        first | exact ih (t + 1, ρ) ⟨by dsimp only; omega, by dsimp only; rw [show swQ π x (t + 1) p = swQ π x t p + (if sP x t = 0 ∧ pO π t = p then 1 else 0) from rfl, if_neg (fun z => by omega), Nat.add_zero]; exact hS, hF⟩ (by dsimp only; omega) | exact ih (t + 1, _) ⟨by dsimp only; omega, by dsimp only; rw [show swQ π x (t + 1) p = swQ π x t p + (if sP x t = 0 ∧ pO π t = p then 1 else 0) from rfl, if_pos (by omega), List.replicate_succ', ← List.append_assoc]; exact hSn, (hF.up 146 _ _ (by omega)).up 128 _ _ (by omega)⟩ (by dsimp only; omega)
      · skip
        refine V_aload_n (pc := 34) C (dk k_Z_setCosts 20 rfl) rfl ?_
        refine V_getr (pc := 35) (o2 := 130) C (dk k_Z_setCosts 21 rfl) fl_Z_13 kq_128 (by decide) rfl (by decide) rfl ?_
        refine V_iload_n (pc := 38) C (dk k_Z_setCosts 22 rfl) rfl ?_
        refine V_iald (pc := 39) C (dk k_Z_setCosts 23 rfl) kq_130 (by decide) (by omega) (by omega) ?_
        refine V_iload_n (pc := 40) C (dk k_Z_setCosts 24 rfl) rfl ?_
        rw [hF 130 t (by omega) (by omega), gO]
        refine V_icmpne (pc := 41) C (dk k_Z_setCosts 25 rfl) 64 rfl (by first | exact hR _ _ | with_reducible assumption | exact ⟨by omega, by omega⟩) (by first | exact hR _ _ | with_reducible assumption | exact ⟨by omega, by omega⟩) (fun h11 => ?_) (fun h11 => ?_)
        · skip
          refine V_iinc (pc := 64) C (dk k_Z_setCosts 38 rfl) (by rw [hXN]; decide) rfl ?_
          dsimp only [lst, lstL, lz, kill, Fin.val, Nat.reduceAdd]
          refine V_goto (pc := 67) C (dk k_Z_setCosts 39 rfl) 17 rfl ?_
          first | exact ih (t + 1, ρ) ⟨by dsimp only; omega, by dsimp only; rw [show swQ π x (t + 1) p = swQ π x t p + (if sP x t = 0 ∧ pO π t = p then 1 else 0) from rfl, if_neg (fun z => by omega), Nat.add_zero]; exact hS, hF⟩ (by dsimp only; omega) | exact ih (t + 1, _) ⟨by dsimp only; omega, by dsimp only; rw [show swQ π x (t + 1) p = swQ π x t p + (if sP x t = 0 ∧ pO π t = p then 1 else 0) from rfl, if_pos (by omega), List.replicate_succ', ← List.append_assoc]; exact hSn, (hF.up 146 _ _ (by omega)).up 128 _ _ (by omega)⟩ (by dsimp only; omega)
        · skip
          have hm1 : swQ π x (t + 1) p = swQ π x t p + (if sP x t = 0 ∧ pO π t = p then 1 else 0) := rfl
          rw [if_pos (by omega)] at hm1
          have hm2 := swQ_mono π x p (m := t + 1) (pN π) (by omega)
          have hm3 := s5I_mono q (m := p + 1) 5 (by omega)
          have hm4 : s5I q (p + 1) = s5I q p + q p := rfl
          have hm5 : q p = swQ π x (pN π) p := by rw [hq]
          have hm6 : s5I q 5 = ms.length := K1
          have hSn := hS.add p
          rw [List.length_append, List.length_replicate, swS_len] at hSn
          refine V_aload_n (pc := 44) C (dk k_Z_setCosts 26 rfl) rfl ?_
          refine V_getr (pc := 45) (o2 := 146) C (dk k_Z_setCosts 27 rfl) fl_Z_61 kq_128 (by decide) rfl (by decide) rfl ?_
          refine V_aload_n (pc := 48) C (dk k_Z_setCosts 28 rfl) rfl ?_
          refine V_geti (pc := 49) (ji := 33) C (dk k_Z_setCosts 29 rfl) fl_Z_233 kq_128 (by decide) rfl rfl ?_
          refine V_iload_n (pc := 52) C (dk k_Z_setCosts 30 rfl) rfl ?_
          rw [hSl]
          refine V_iast (pc := 53) C (dk k_Z_setCosts 31 rfl) kq_146 (by decide) (by omega) (by omega) ⟨by omega, by omega⟩ ?_
          refine V_R (fun hR => ?_)
          refine V_aload_n (pc := 54) C (dk k_Z_setCosts 32 rfl) rfl ?_
          refine V_dupR (pc := 55) C (dk k_Z_setCosts 33 rfl) ?_
          refine V_geti (pc := 56) (ji := 33) C (dk k_Z_setCosts 34 rfl) fl_Z_233 kq_128 (by decide) rfl rfl ?_
          rw [show up ρ 146 ((s5I q p + swQ π x t p : Nat) : Int) (p : Int) 128 33 = ((s5I q p + swQ π x t p : Nat) : Int) from (up_ne1 _ _ _ _ (by decide)).trans hSl]
          refine V_iconst (pc := 59) C (dk k_Z_setCosts 35 rfl) rfl ?_
          refine V_iadd (pc := 60) C (dk k_Z_setCosts 36 rfl) ?_
          refine V_puti (pc := 61) (ji := 33) C (dk k_Z_setCosts 37 rfl) fl_Z_233 fw_9_33 kq_128 (by decide) rfl rfl ⟨by omega, by omega⟩ ?_
          refine V_R (fun hR => ?_)
          refine V_iinc (pc := 64) C (dk k_Z_setCosts 38 rfl) (by rw [hXN]; decide) rfl ?_
          dsimp only [lst, lstL, lz, kill, Fin.val, Nat.reduceAdd]
          refine V_goto (pc := 67) C (dk k_Z_setCosts 39 rfl) 17 rfl ?_
          first | exact ih (t + 1, ρ) ⟨by dsimp only; omega, by dsimp only; rw [show swQ π x (t + 1) p = swQ π x t p + (if sP x t = 0 ∧ pO π t = p then 1 else 0) from rfl, if_neg (fun z => by omega), Nat.add_zero]; exact hS, hF⟩ (by dsimp only; omega) | exact ih (t + 1, _) ⟨by dsimp only; omega, by dsimp only; rw [show swQ π x (t + 1) p = swQ π x t p + (if sP x t = 0 ∧ pO π t = p then 1 else 0) from rfl, if_pos (by omega), List.replicate_succ', ← List.append_assoc]; exact hSn, (hF.up 146 _ _ (by omega)).up 128 _ _ (by omega)⟩ (by dsimp only; omega)
