/-- how much a thing is rued by its being with p -/
def swc (π : PL) (t p : Nat) : Int := if pO π t = p then pU π t else pU π t / 2
/-- one thing fewer for p -/
def swd (r : Nat → Nat) (p : Nat) : Nat → Nat := fun q => if q = p then r q - 1 else r q
def swm (c : Nat → Int) (r : Nat → Nat) : Nat → Int
  | 0 => -4
  | n + 1 => if r n = 0 then swm c r n else if swm c r n = -4 then c n else min (swm c r n) (c n)
/-- the least for these things, r telling how many each person may get -/
def swL (π : PL) : List Nat → (Nat → Nat) → Int
  | [], _ => 0
  | t :: ts, r => swm (fun p => swc π t p + swL π ts (swd r p)) r 5
/-- the first person from p on by whom it comes to v -/
def swf (c : Nat → Int) (r : Nat → Nat) (v : Int) : Nat → Nat → Nat
  | 0, _ => 0
  | f + 1, p => if r p ≠ 0 ∧ c p = v then p else swf c r v f (p + 1)
abbrev swC (π : PL) (t : Nat) (ts : List Nat) (r : Nat → Nat) : Nat → Int := fun p => swc π t p + swL π ts (swd r p)
def swg (π : PL) : List Nat → (Nat → Nat) → List Nat
  | [], _ => []
  | t :: ts, r => swf (swC π t ts r) r (swL π (t :: ts) r) 5 0 :: swg π ts (swd r (swf (swC π t ts r) r (swL π (t :: ts) r) 5 0))
def swa : List Nat → List Nat → Int → Int
  | t :: ts, p :: ps, u => if u = t then p else swa ts ps u
  | _, _, _ => -4
/-- the things that are with persons; how many each person has -/
def swM (x : ST) : Nat → List Nat
  | 0 => []
  | n + 1 => if sP x n = 0 then swM x n ++ [n] else swM x n
def swQ (π : PL) (x : ST) : Nat → Nat → Nat
  | 0, _ => 0
  | n + 1, p => swQ π x n p + (if sP x n = 0 ∧ pO π n = p then 1 else 0)
abbrev msO (π : PL) (x : ST) : List Nat := swM x (pN π)
abbrev qO (π : PL) (x : ST) : Nat → Nat := swQ π x (pN π)
def o_swap (π : PL) (x : ST) (t : Int) : Int := if t = -1 then swL π (msO π x) (qO π x) else if isT π t then swa (msO π x) (swg π (msO π x) (qO π x)) t else -1
/-! sums over the persons -/
def s5I (r : Nat → Nat) : Nat → Nat
  | 0 => 0
  | n + 1 => s5I r n + r n
abbrev s5 (r : Nat → Nat) : Nat := s5I r 5
theorem s5_e (r : Nat → Nat) : s5 r = r 0 + r 1 + r 2 + r 3 + r 4 := by simp [s5I]
theorem p5 {p : Nat} (h : p < 5) : p = 0 ∨ p = 1 ∨ p = 2 ∨ p = 3 ∨ p = 4 := by omega
theorem s5_d {r : Nat → Nat} {p : Nat} (h : p < 5) (h0 : r p ≠ 0) : s5 (swd r p) + 1 = s5 r := by
  rw [s5_e, s5_e]
  unfold swd
  rcases p5 h with rfl | rfl | rfl | rfl | rfl <;> simp <;> omega
theorem s5_cg {r r' : Nat → Nat} (h : ∀ p, p < 5 → r p = r' p) : s5 r = s5 r' := by
  rw [s5_e, s5_e, h 0 (by omega), h 1 (by omega), h 2 (by omega), h 3 (by omega), h 4 (by omega)]
theorem s5_le {r r' : Nat → Nat} (h : ∀ p, p < 5 → r p ≤ r' p) : s5 r ≤ s5 r' := by
  have := h 0 (by omega)
  have := h 1 (by omega)
  have := h 2 (by omega)
  have := h 3 (by omega)
  have := h 4 (by omega)
  rw [s5_e, s5_e]; omega
theorem s5_pos {r : Nat → Nat} (h : s5 r ≠ 0) : ∃ p, p < 5 ∧ r p ≠ 0 := by
  rw [s5_e] at h
  by_cases h0 : r 0 = 0
  · by_cases h1 : r 1 = 0
    · by_cases h2 : r 2 = 0
      · by_cases h3 : r 3 = 0
        · exact ⟨4, by omega, by omega⟩
        · exact ⟨3, by omega, h3⟩
      · exact ⟨2, by omega, h2⟩
    · exact ⟨1, by omega, h1⟩
  · exact ⟨0, by omega, h0⟩
theorem s5_1 {r : Nat → Nat} {p : Nat} (h : p < 5) : r p ≤ s5 r := by
  rw [s5_e]
  rcases p5 h with rfl | rfl | rfl | rfl | rfl <;> omega
/-! the least -/
theorem swm_cg {c c' : Nat → Int} {r r' : Nat → Nat} : ∀ n : Nat, (∀ p, p < n → r p = r' p ∧ c p = c' p) → swm c r n = swm c' r' n
  | 0, _ => rfl
  | n + 1, h => by
    rw [swm, swm, swm_cg n (fun p a => h p (by omega)), (h n (by omega)).1, (h n (by omega)).2]
theorem swd_cg {r r' : Nat → Nat} (h : ∀ p, p < 5 → r p = r' p) (q : Nat) : ∀ p, p < 5 → swd r q p = swd r' q p := fun p a => by
  unfold swd; rw [h p a]
theorem swL_cg (π : PL) : ∀ (ts : List Nat) (r r' : Nat → Nat), (∀ p, p < 5 → r p = r' p) → swL π ts r = swL π ts r'
  | [], _, _, _ => rfl
  | t :: ts, r, r', h => swm_cg 5 (fun p a => ⟨h p a, by rw [swL_cg π ts _ _ (swd_cg h p)]⟩)
theorem swf_cg {c c' : Nat → Int} {r r' : Nat → Nat} {v : Int} : ∀ f p : Nat, f + p ≤ 5 → (∀ p, p < 5 → r p = r' p ∧ c p = c' p) → swf c r v f p = swf c' r' v f p
  | 0, _, _, _ => rfl
  | f + 1, p, hf, h => by
    rw [swf, swf, (h p (by omega)).1, (h p (by omega)).2, swf_cg f (p + 1) (by omega) h]
theorem swg_cg (π : PL) : ∀ (ts : List Nat) (r r' : Nat → Nat), (∀ p, p < 5 → r p = r' p) → swg π ts r = swg π ts r'
  | [], _, _, _ => rfl
  | t :: ts, r, r', h => by
    have e1 : swL π (t :: ts) r = swL π (t :: ts) r' := swL_cg π _ _ _ h
    have e2 : swf (swC π t ts r) r (swL π (t :: ts) r) 5 0 = swf (swC π t ts r') r' (swL π (t :: ts) r') 5 0 := by
      rw [e1]
      exact swf_cg 5 0 (by omega) (fun p a => ⟨h p a, by show swc π t p + swL π ts (swd r p) = swc π t p + swL π ts (swd r' p); rw [swL_cg π ts _ _ (swd_cg h p)]⟩)
    rw [swg, swg, e2, swg_cg π ts _ _ (swd_cg h _)]
/-- v is the least of c over those with something left -/
def swI (c : Nat → Int) (r : Nat → Nat) (v : Int) : Prop := (∃ p, p < 5 ∧ r p ≠ 0 ∧ c p = v) ∧ ∀ p, p < 5 → r p ≠ 0 → v ≤ c p
theorem swI_u {c : Nat → Int} {r : Nat → Nat} {v v' : Int} (h : swI c r v) (h' : swI c r v') : v = v' := by
  obtain ⟨⟨p, a1, a2, a3⟩, a4⟩ := h
  obtain ⟨⟨q, b1, b2, b3⟩, b4⟩ := h'
  have := a4 q b1 b2
  have := b4 p a1 a2
  omega
theorem swm_n {c : Nat → Int} {r : Nat → Nat} : ∀ n : Nat, (∀ p, p < n → r p ≠ 0 → 0 ≤ c p) → ((∀ p, p < n → r p = 0) ∧ swm c r n = -4) ∨ (0 ≤ swm c r n ∧ (∃ p, p < n ∧ r p ≠ 0 ∧ c p = swm c r n) ∧ ∀ p, p < n → r p ≠ 0 → swm c r n ≤ c p)
  | 0, _ => Or.inl ⟨fun p h => by omega, rfl⟩
  | n + 1, h => by
    rw [swm]
    have ih := swm_n n (fun p a => h p (by omega))
    by_cases h0 : r n = 0
    · rw [if_pos h0]
      rcases ih with ⟨a, b⟩ | ⟨a, ⟨p, b1, b2, b3⟩, c0⟩
      · exact Or.inl ⟨fun p q => by
          by_cases e : p = n
          · rw [e]; exact h0
          · exact a p (by omega), b⟩
      · exact Or.inr ⟨a, ⟨p, by omega, b2, b3⟩, fun q e f => by
          by_cases e2 : q = n
          · rw [e2] at f; exact absurd h0 f
          · exact c0 q (by omega) f⟩
    · rw [if_neg h0]
      have hn := h n (by omega) h0
      rcases ih with ⟨a, b⟩ | ⟨a, ⟨p, b1, b2, b3⟩, c0⟩
      · rw [if_pos b]
        exact Or.inr ⟨hn, ⟨n, by omega, h0, rfl⟩, fun q e f => by
          by_cases e2 : q = n
          · rw [e2]; exact Int.le_refl _
          · exact absurd (a q (by omega)) f⟩
      · rw [if_neg (by omega)]
        refine Or.inr ⟨by omega, ?_, fun q e f => ?_⟩
        · by_cases hh : swm c r n ≤ c n
          · exact ⟨p, by omega, b2, by omega⟩
          · exact ⟨n, by omega, h0, by omega⟩
        · by_cases e2 : q = n
          · rw [e2]; omega
          · have := c0 q (by omega) f; omega
theorem swm_I {c : Nat → Int} {r : Nat → Nat} (h : ∀ p, p < 5 → r p ≠ 0 → 0 ≤ c p) (he : ∃ p, p < 5 ∧ r p ≠ 0) : swI c r (swm c r 5) := by
  rcases swm_n 5 h with ⟨a, b⟩ | ⟨a, b, d⟩
  · obtain ⟨p, h1, h2⟩ := he
    exact absurd (a p h1) h2
  · exact ⟨b, d⟩
theorem swm_b {c : Nat → Int} {r : Nat → Nat} {B : Int} (hB : -4 ≤ B) : ∀ n : Nat, (∀ p, p < n → r p ≠ 0 → -4 ≤ c p ∧ c p ≤ B) → -4 ≤ swm c r n ∧ swm c r n ≤ B
  | 0, _ => ⟨Int.le_refl _, hB⟩
  | n + 1, h => by
    have ih := swm_b hB n (fun p a => h p (by omega))
    rw [swm]
    by_cases h0 : r n = 0
    · rw [if_pos h0]; exact ih
    · rw [if_neg h0]
      have := h n (by omega) h0
      split <;> omega
def swU (π : PL) (ts : List Nat) : Prop := ∀ t ∈ ts, 0 ≤ pU π t ∧ pU π t ≤ 20
theorem swc_b {π : PL} {t : Nat} (h : 0 ≤ pU π t ∧ pU π t ≤ 20) (p : Nat) : 0 ≤ swc π t p ∧ swc π t p ≤ 20 := by
  unfold swc; split <;> omega
theorem swL_b (π : PL) : ∀ (ts : List Nat) (r : Nat → Nat), swU π ts → s5 r = ts.length → 0 ≤ swL π ts r ∧ swL π ts r ≤ 20 * ts.length
  | [], _, _, _ => ⟨Int.le_refl 0, Int.le_refl 0⟩
  | t :: ts, r, hU, hs => by
    rw [List.length_cons] at hs
    have hb : ∀ p, p < 5 → r p ≠ 0 → 0 ≤ swC π t ts r p ∧ swC π t ts r p ≤ 20 * (ts.length : Int) + 20 := fun p a b => by
      have h1 := s5_d a b
      have h2 := swL_b π ts (swd r p) (fun u q => hU u (List.mem_cons_of_mem _ q)) (by omega)
      have h3 := swc_b (hU t List.mem_cons_self) p
      show 0 ≤ swc π t p + swL π ts (swd r p) ∧ swc π t p + swL π ts (swd r p) ≤ _
      omega
    have hI : swI (swC π t ts r) r (swL π (t :: ts) r) := swm_I (fun p a b => (hb p a b).1) (s5_pos (by omega))
    obtain ⟨⟨p, a1, a2, a3⟩, -⟩ := hI
    have := hb p a1 a2
    rw [a3] at this
    rw [List.length_cons]
    omega
theorem swL_I {π : PL} {t : Nat} {ts : List Nat} {r : Nat → Nat} (hU : swU π (t :: ts)) (hs : s5 r = ts.length + 1) : swI (swC π t ts r) r (swL π (t :: ts) r) :=
  swm_I (fun p a b => by
    have h1 := s5_d a b
    have h2 := swL_b π ts (swd r p) (fun u q => hU u (List.mem_cons_of_mem _ q)) (by omega)
    have h3 := swc_b (hU t List.mem_cons_self) p
    show 0 ≤ swc π t p + swL π ts (swd r p)
    omega) (s5_pos (by omega))
theorem swf_n {c : Nat → Int} {r : Nat → Nat} {v : Int} : ∀ f p : Nat, (∃ q, p ≤ q ∧ q < p + f ∧ r q ≠ 0 ∧ c q = v) → p ≤ swf c r v f p ∧ swf c r v f p < p + f ∧ r (swf c r v f p) ≠ 0 ∧ c (swf c r v f p) = v ∧ ∀ q, p ≤ q → q < swf c r v f p → ¬ (r q ≠ 0 ∧ c q = v)
  | 0, p, ⟨q, a, b, _⟩ => by omega
  | f + 1, p, ⟨q, a, b, d, e⟩ => by
    rw [swf]
    by_cases h : r p ≠ 0 ∧ c p = v
    · rw [if_pos h]
      exact ⟨Nat.le_refl _, by omega, h.1, h.2, fun q' a' b' => by omega⟩
    · rw [if_neg h]
      have hq : q ≠ p := fun z => h ⟨by rw [← z]; exact d, by rw [← z]; exact e⟩
      obtain ⟨g1, g2, g3, g4, g5⟩ := swf_n f (p + 1) ⟨q, by omega, by omega, d, e⟩
      exact ⟨by omega, by omega, g3, g4, fun q' a' b' => by
        by_cases hp : q' = p
        · rw [hp]; exact h
        · exact g5 q' (by omega) b'⟩
theorem swf_s {c : Nat → Int} {r : Nat → Nat} {v : Int} (h : ∃ q, q < 5 ∧ r q ≠ 0 ∧ c q = v) : swf c r v 5 0 < 5 ∧ r (swf c r v 5 0) ≠ 0 ∧ c (swf c r v 5 0) = v ∧ ∀ q, q < swf c r v 5 0 → ¬ (r q ≠ 0 ∧ c q = v) := by
  obtain ⟨q, a, b, d⟩ := h
  obtain ⟨g1, g2, g3, g4, g5⟩ := swf_n (c := c) (r := r) (v := v) 5 0 ⟨q, by omega, by omega, b, d⟩
  exact ⟨by omega, g3, g4, fun q' a' => g5 q' (by omega) a'⟩
theorem swf_u {c : Nat → Int} {r : Nat → Nat} {v : Int} {p : Nat} (h : p < 5) (h1 : r p ≠ 0) (h2 : c p = v) (h3 : ∀ q, q < p → ¬ (r q ≠ 0 ∧ c q = v)) : swf c r v 5 0 = p := by
  obtain ⟨g1, g2, g3, g4⟩ := swf_s (c := c) (r := r) (v := v) ⟨p, h, h1, h2⟩
  rcases Nat.lt_trichotomy (swf c r v 5 0) p with a | a | a
  · exact absurd ⟨g2, g3⟩ (h3 _ a)
  · exact a
  · exact absurd ⟨h1, h2⟩ (g4 p a)
/-! codes -/
def swW (q : Nat → Nat) : Nat → Nat
  | 0 => 1
  | p + 1 => swW q p * (q p + 1)
def swD (q : Nat → Nat) (c p : Nat) : Nat := c / swW q p % (q p + 1)
theorem swW_0 (q : Nat → Nat) : ∀ p : Nat, 0 < swW q p
  | 0 => Nat.one_pos
  | p + 1 => Nat.mul_pos (swW_0 q p) (Nat.succ_pos _)
theorem swW_dv (q : Nat → Nat) {p : Nat} : ∀ n : Nat, p < n → ∃ k, 0 < k ∧ swW q n = swW q p * (q p + 1) * k
  | 0, h => by omega
  | n + 1, h => by
    by_cases e : p = n
    · exact ⟨1, Nat.one_pos, by rw [e, Nat.mul_one]; rfl⟩
    · obtain ⟨k, h0, h1⟩ := swW_dv q (p := p) n (by omega)
      exact ⟨k * (q n + 1), Nat.mul_pos h0 (Nat.succ_pos _), by rw [swW, h1, Nat.mul_assoc]⟩
theorem swW_le (q : Nat → Nat) {p : Nat} (h : p ≤ 5) : swW q p ≤ swW q 5 := by
  by_cases e : p = 5
  · rw [e]; exact Nat.le_refl _
  · obtain ⟨k, h0, h1⟩ := swW_dv q (p := p) 5 (by omega)
    rw [h1, Nat.mul_assoc]
    exact Nat.le_mul_of_pos_right _ (Nat.mul_pos (Nat.succ_pos _) h0)
theorem swD_q (q : Nat → Nat) (c p : Nat) : swD q c p ≤ q p := Nat.le_of_lt_succ (Nat.mod_lt _ (Nat.succ_pos _))
theorem swD_W {q : Nat → Nat} {c p : Nat} (h : swD q c p ≠ 0) : swW q p ≤ c := by
  by_cases h1 : swW q p ≤ c
  · exact h1
  · exact absurd (by unfold swD; rw [Nat.div_eq_of_lt (by omega), Nat.zero_mod]) h
theorem mod_pred {m Q : Nat} (hQ : 0 < Q) (h : m % Q ≠ 0) : (m - 1) % Q = m % Q - 1 ∧ (m - 1) / Q = m / Q := by
  have h1 := Nat.div_add_mod m Q
  have h2 := Nat.mod_lt m hQ
  have e : m - 1 = Q * (m / Q) + (m % Q - 1) := by omega
  constructor
  · rw [e, Nat.mul_add_mod, Nat.mod_eq_of_lt (by omega)]
  · rw [e, Nat.mul_add_div hQ, Nat.div_eq_of_lt (a := m % Q - 1) (by omega), Nat.add_zero]
theorem swD_d {q : Nat → Nat} {c p : Nat} (h : swD q c p ≠ 0) : swD q (c - swW q p) = swd (swD q c) p := by
  have hW := swD_W h
  have h0 := swW_0 q p
  have hd : (c - swW q p) / swW q p = c / swW q p - 1 := by
    have := Nat.sub_mul_div c (swW q p) 1
    rwa [Nat.mul_one] at this
  have hm := mod_pred (m := c / swW q p) (Nat.succ_pos (q p)) h
  funext p'
  unfold swd
  by_cases e : p' = p
  · subst e
    rw [if_pos rfl]
    unfold swD
    rw [hd]; exact hm.1
  · rw [if_neg e]
    unfold swD
    rcases Nat.lt_or_ge p' p with hl | hl
    · obtain ⟨k, k0, k1⟩ := swW_dv q (p := p') p hl
      rw [Nat.mul_assoc] at k1
      rw [k1, Nat.sub_mul_div]
      refine Nat.sub_mul_mod ?_
      rw [Nat.le_div_iff_mul_le (swW_0 q p'), Nat.mul_comm, ← k1]
      exact hW
    · obtain ⟨k, k0, k1⟩ := swW_dv q (p := p) p' (by omega)
      rw [k1, ← Nat.div_div_eq_div_mul, ← Nat.div_div_eq_div_mul, ← Nat.div_div_eq_div_mul, ← Nat.div_div_eq_div_mul, hd, hm.2]
theorem swD_0 {q : Nat → Nat} {c : Nat} (h : ∀ p, p < 5 → swD q c p = 0) (hc : c < swW q 5) : c = 0 := by
  have key : ∀ n : Nat, n ≤ 5 → c % swW q n = 0 := by
    intro n
    induction n with
    | zero => intro _; exact Nat.mod_one c
    | succ n ih =>
      intro hn
      have h1 := h n (by omega)
      unfold swD at h1
      rw [swW, Nat.mod_mul, ih (by omega), h1, Nat.mul_zero]
  have := key 5 (Nat.le_refl _)
  rw [Nat.mod_eq_of_lt hc] at this
  exact this
theorem swD_t {q : Nat → Nat} {p : Nat} (h : p < 5) : swD q (swW q 5 - 1) p = q p := by
  obtain ⟨k, k0, k1⟩ := swW_dv q (p := p) 5 h
  have h0 := swW_0 q p
  unfold swD
  rw [Nat.mul_assoc] at k1
  have hK : 0 < (q p + 1) * k := Nat.mul_pos (Nat.succ_pos _) k0
  have e : swW q 5 - 1 = swW q p * ((q p + 1) * k - 1) + (swW q p - 1) := by
    rw [k1, Nat.mul_sub, Nat.mul_one]
    have := Nat.le_mul_of_pos_right (swW q p) hK
    omega
  rw [e, Nat.mul_add_div h0, Nat.div_eq_of_lt (a := swW q p - 1) (by omega), Nat.add_zero]
  obtain ⟨k', rfl⟩ : ∃ k', k = k' + 1 := ⟨k - 1, by omega⟩
  rw [show (q p + 1) * (k' + 1) - 1 = (q p + 1) * k' + q p by rw [Nat.mul_add]; omega, Nat.mul_add_mod, Nat.mod_eq_of_lt (by omega)]
theorem sw108 : ∀ a b c d e : Fin 9, a.val + b.val + c.val + d.val + e.val ≤ 8 → 1 * (a.val + 1) * (b.val + 1) * (c.val + 1) * (d.val + 1) * (e.val + 1) ≤ 108 := by decide +kernel
theorem swW_108 {q : Nat → Nat} (h : s5 q ≤ 8) : swW q 5 ≤ 108 := by
  rw [s5_e] at h
  exact sw108 ⟨q 0, by omega⟩ ⟨q 1, by omega⟩ ⟨q 2, by omega⟩ ⟨q 3, by omega⟩ ⟨q 4, by omega⟩ h
/-! the things -/
theorem swM_mem (x : ST) : ∀ (n : Nat) (t : Nat), t ∈ swM x n ↔ t < n ∧ sP x t = 0
  | 0, t => by simp [swM]
  | n + 1, t => by
    rw [swM]
    by_cases h : sP x n = 0
    · rw [if_pos h, List.mem_append, swM_mem x n t, List.mem_singleton]
      constructor
      · rintro (⟨a, b⟩ | a)
        · exact ⟨by omega, b⟩
        · rw [a]; exact ⟨by omega, h⟩
      · rintro ⟨a, b⟩
        by_cases e : t = n
        · exact Or.inr e
        · exact Or.inl ⟨by omega, b⟩
    · rw [if_neg h, swM_mem x n t]
      constructor
      · rintro ⟨a, b⟩; exact ⟨by omega, b⟩
      · rintro ⟨a, b⟩
        by_cases e : t = n
        · rw [e] at b; exact absurd b h
        · exact ⟨by omega, b⟩
theorem swM_p (x : ST) : ∀ n : Nat, (swM x n).Pairwise (· < ·)
  | 0 => List.Pairwise.nil
  | n + 1 => by
    rw [swM]
    split
    · refine List.pairwise_append.mpr ⟨swM_p x n, List.pairwise_singleton _ _, fun a ha b hb => ?_⟩
      rw [List.mem_singleton] at hb
      rw [hb]
      exact ((swM_mem x n a).mp ha).1
    · exact swM_p x n
theorem swM_len (x : ST) : ∀ n : Nat, (swM x n).length ≤ n
  | 0 => Nat.le_refl 0
  | n + 1 => by
    have := swM_len x n
    rw [swM]
    split
    · rw [List.length_append, List.length_singleton]; omega
    · omega
theorem swQ_s {π : PL} {x : ST} : ∀ n : Nat, (∀ t : Nat, t < n → 0 ≤ pO π t ∧ pO π t < 5) → s5 (swQ π x n) = (swM x n).length
  | 0, _ => by rw [s5_e]; rfl
  | n + 1, h => by
    have ih := swQ_s (π := π) (x := x) n (fun t a => h t (by omega))
    rw [s5_e] at ih ⊢
    obtain ⟨o0, o1⟩ := h n (by omega)
    rw [swM]
    have e : ∀ p, swQ π x (n + 1) p = swQ π x n p + (if sP x n = 0 ∧ pO π n = p then 1 else 0) := fun _ => rfl
    rw [e 0, e 1, e 2, e 3, e 4]
    by_cases h0 : sP x n = 0
    · rw [if_pos h0, List.length_append, List.length_singleton]
      obtain ⟨o, ho⟩ : ∃ o : Nat, pO π n = o := ⟨(pO π n).toNat, by omega⟩
      rw [ho] at o1 ⊢
      rcases p5 (show o < 5 by omega) with rfl | rfl | rfl | rfl | rfl <;> simp [h0] <;> omega
    · rw [if_neg h0]
      simp [h0]
      omega
theorem swa_no : ∀ (ts ps : List Nat) (u : Int), (∀ t ∈ ts, u ≠ (t : Int)) → swa ts ps u = -4
  | [], _, _, _ => by unfold swa; rfl
  | t :: ts, [], _, _ => by unfold swa; rfl
  | t :: ts, p :: ps, u, h => by
    rw [swa, if_neg (h t List.mem_cons_self)]
    exact swa_no ts ps u (fun v q => h v (List.mem_cons_of_mem _ q))
theorem drop_at {l : List Nat} {n t : Nat} {ts : List Nat} (h : l.drop n = t :: ts) : l[n]? = some t ∧ l.drop (n + 1) = ts ∧ n < l.length := by
  have h1 : (l.drop n)[0]? = some t := by rw [h]; rfl
  rw [List.getElem?_drop, Nat.add_zero] at h1
  refine ⟨h1, ?_, (List.getElem?_eq_some_iff.mp h1).1⟩
  rw [← List.tail_drop, h]; rfl
theorem drop_ex {l : List Nat} {n : Nat} (h : n < l.length) : ∃ t ts, l.drop n = t :: ts := by
  rcases hd : l.drop n with _ | ⟨t, ts⟩
  · have := congrArg List.length hd
    rw [List.length_drop] at this
    simp at this
    omega
  · exact ⟨t, ts, rfl⟩
theorem drop_mem {l : List Nat} {n u : Nat} (h : u ∈ l.drop n) : u ∈ l := List.mem_of_mem_drop h
def ExK (π : PL) (q : Nat → Nat) (ms : List Nat) : Prop := s5 q = ms.length ∧ ms.length ≤ 8 ∧ swW q 5 ≤ 108 ∧ swU π ms ∧ (∀ t ∈ ms, t < pN π) ∧ ms.Pairwise (· < ·) ∧ pN π ≤ 8
theorem ExK.of {π : PL} (ok : PLok π) (x : ST) : ExK π (qO π x) (msO π x) := by
  obtain ⟨k1, k2, k3, k4, k5, k6, kT, kX⟩ := ok
  have h1 : s5 (qO π x) = (msO π x).length := swQ_s (π := π) (x := x) (pN π) (fun t a => by have := kT t (by omega) (by omega); omega)
  have h2 : (msO π x).length ≤ pN π := swM_len x (pN π)
  refine ⟨h1, by omega, swW_108 (by omega), fun t h => ?_, fun t h => ((swM_mem x _ t).mp h).1, swM_p x _, k3⟩
  have h3 := ((swM_mem x _ t).mp h).1
  have := kT t (by omega) (by omega)
  omega
/-- the table of codes: as far as c -/
def swT (π : PL) (q : Nat → Nat) (ms : List Nat) (c : Nat) : Int := swL π (ms.drop (ms.length - s5 (swD q c))) (swD q c)
theorem swT_s {π : PL} {q : Nat → Nat} {ms : List Nat} {c p t : Nat} {ts : List Nat} (hK : ExK π q ms) (hp : p < 5) (h : swD q c p ≠ 0) (hd : ms.drop (ms.length - s5 (swD q c)) = t :: ts) : swT π q ms (c - swW q p) = swL π ts (swd (swD q c) p) := by
  unfold swT
  rw [swD_d h]
  have h1 := s5_d hp h
  have h2 : s5 (swD q c) ≤ ms.length := by rw [← hK.1]; exact s5_le (fun p _ => swD_q q c p)
  rw [show ms.length - s5 (swd (swD q c) p) = ms.length - s5 (swD q c) + 1 by omega, (drop_at hd).2.1]
theorem swT_d {π : PL} {q : Nat → Nat} {ms : List Nat} {c : Nat} (hK : ExK π q ms) (h0 : c ≠ 0) (hc : c < swW q 5) : ∃ t ts, ms.drop (ms.length - s5 (swD q c)) = t :: ts ∧ s5 (swD q c) = ts.length + 1 ∧ t ∈ ms ∧ swU π (t :: ts) := by
  have h1 : s5 (swD q c) ≠ 0 := fun e => h0 (swD_0 (fun p a => by have := s5_1 (r := swD q c) a; omega) hc)
  have h2 : s5 (swD q c) ≤ ms.length := by rw [← hK.1]; exact s5_le (fun p _ => swD_q q c p)
  obtain ⟨t, ts, e⟩ := drop_ex (l := ms) (n := ms.length - s5 (swD q c)) (by omega)
  have hl := congrArg List.length e
  rw [List.length_drop, List.length_cons] at hl
  have hm : ∀ u ∈ (t :: ts), u ∈ ms := fun u hu => drop_mem (by rw [e]; exact hu)
  exact ⟨t, ts, e, by omega, hm t List.mem_cons_self, fun u hu => hK.2.2.2.1 u (hm u hu)⟩
theorem swT_b {π : PL} {q : Nat → Nat} {ms : List Nat} (hK : ExK π q ms) (c : Nat) : 0 ≤ swT π q ms c ∧ swT π q ms c ≤ 200 := by
  have h2 : s5 (swD q c) ≤ ms.length := by rw [← hK.1]; exact s5_le (fun p _ => swD_q q c p)
  have := swL_b π (ms.drop (ms.length - s5 (swD q c))) (swD q c) (fun u hu => hK.2.2.2.1 u (drop_mem hu)) (by rw [List.length_drop]; omega)
  rw [List.length_drop] at this
  have := hK.2.1
  unfold swT
  omega
/-- the class's exchange holds these -/
def ExR (σ : Wd) (q : Nat → Nat) (ms : List Nat) : Prop := (∀ p : Nat, p < 5 → σ 125 p = swW q p ∧ σ 124 p = q p) ∧ σ 122 5 = ms.length ∧ σ 122 6 = swW q 5 ∧ (∀ (i t : Nat), ms[i]? = some t → σ 123 i = t)
theorem ExR.fx {σ σ' : Wd} {q : Nat → Nat} {ms : List Nat} (h : ExR σ q ms) (hf : ∀ (k : Nat) (i : Int), (k = 122 ∧ (i = 5 ∨ i = 6)) ∨ (123 ≤ k ∧ k ≤ 125) → σ' k i = σ k i) : ExR σ' q ms := by
  obtain ⟨h1, h2, h3, h4⟩ := h
  refine ⟨fun p a => ?_, (hf 122 5 (by omega)).trans h2, (hf 122 6 (by omega)).trans h3, fun i t e => (hf 123 i (by omega)).trans (h4 i t e)⟩
  rw [hf 125 p (by omega), hf 124 p (by omega)]; exact h1 p a

def i_E_leftFor : List (Nat × (Instr × Nat)) := [(0, (.aload_n 0, 1)), (1, (.getfield 18, 3)), (4, (.iload_n 1, 1)), (5, (.invokestatic 43, 3)), (8, (.istore_n 3, 1)), (9, (.aload_n 0, 1)), (10, (.getfield 15, 3)), (13, (.iload_n 1, 1)), (14, (.invokestatic 43, 3)), (17, (.iconst 1, 1)), (18, (.iadd, 1)), (19, (.istore 4, 2)), (21, (.iload_n 3, 1)), (22, (.ifCond .le 17, 3)), (25, (.iload 4, 2)), (27, (.ifCond .le 12, 3)), (30, (.iload_n 2, 1)), (31, (.iload_n 3, 1)), (32, (.idiv, 1)), (33, (.iload 4, 2)), (35, (.irem, 1)), (36, (.goto 4, 3)), (39, (.iconst 0, 1)), (40, (.ireturn, 1))]
theorem k_E_leftFor : i_E_leftFor.all (fun q => decide (decode b_E_leftFor q.1 = .ok q.2)) = true := by decide +kernel

set_option maxHeartbeats 1000000 in
set_option maxRecDepth 20000 in
theorem c_E_leftFor (l : Launch) (G : GE) (σ : Wd) (pl : Nat) (π : PL) (q : Nat → Nat) (ms : List Nat) (hE : ExR σ q ms) (hK : ExK π q ms) (p c : Nat) (hp : p < 5) (hc : c ≤ 200) : Ct l G y_E_leftFor b_E_leftFor 5 (some (.int)) 1 21 [vR 122, vI (p : Int), vI (c : Int)] σ (Dt (some (vI (swD q c p : Nat))) σ) := by
  refine Ct.of cm_E_leftFor (Nat.le_of_ble_eq_true rfl) ?_
  intro X hXl hXG hXN hRm C E
  subst hXl; subst hXG
  show V X 0 [some (vR 122), some (vI (p : Int)), some (vI (c : Int)), none, none] [] σ
  refine V_R (fun hR => ?_)
  obtain ⟨E1, E2, E3, E4⟩ := id hE
  obtain ⟨K1, K2, K3, K4, K5, K6, K7⟩ := id hK
  have w0 := swW_0 q p
  have w1 := swW_le q (p := p) (by omega)
  have w2 := s5_1 (r := q) hp
  obtain ⟨g5, g4⟩ := E1 p hp
  have d0 : 0 ≤ (c : Int) / (swW q p : Int) := Int.ediv_nonneg (by omega) (by omega)
  have d1 : (c : Int) / (swW q p : Int) ≤ c := Int.ediv_le_self _ (by omega)
  refine V_aload_n (pc := 0) C (dk k_E_leftFor 0 rfl) rfl ?_
  refine V_getr (pc := 1) (o2 := 125) C (dk k_E_leftFor 1 rfl) fl_E_18 kq_122 (by decide) rfl (by decide) rfl ?_
  refine V_iload_n (pc := 4) C (dk k_E_leftFor 2 rfl) rfl ?_
  refine V_callS (pc := 5) C (dk k_E_leftFor 3 rfl) lk_E_43 cm_F_at sm_F_at (c_at _ _ _ (125) 5 (p : Int) kq_125 (by decide) (by omega) (by omega)) rfl rfl (Nat.le_of_ble_eq_true rfl) (Rm.mono hRm (by decide) (by decide)) ?_
  rw [g5]
  refine V_istore_n (pc := 8) C (dk k_E_leftFor 4 rfl) (by rw [hXN]; decide) ?_
  dsimp only [lst, lstL, lz, kill, Fin.val, Nat.reduceAdd]
  refine V_aload_n (pc := 9) C (dk k_E_leftFor 5 rfl) rfl ?_
  refine V_getr (pc := 10) (o2 := 124) C (dk k_E_leftFor 6 rfl) fl_E_15 kq_122 (by decide) rfl (by decide) rfl ?_
  refine V_iload_n (pc := 13) C (dk k_E_leftFor 7 rfl) rfl ?_
  refine V_callS (pc := 14) C (dk k_E_leftFor 8 rfl) lk_E_43 cm_F_at sm_F_at (c_at _ _ _ (124) 5 (p : Int) kq_124 (by decide) (by omega) (by omega)) rfl rfl (Nat.le_of_ble_eq_true rfl) (Rm.mono hRm (by decide) (by decide)) ?_
  rw [g4]
  refine V_iconst (pc := 17) C (dk k_E_leftFor 9 rfl) rfl ?_
  refine V_iadd (pc := 18) C (dk k_E_leftFor 10 rfl) ?_
  refine V_istore (pc := 19) C (dk k_E_leftFor 11 rfl) (by rw [hXN]; decide) ?_
  dsimp only [lst, lstL, lz, kill, Fin.val, Nat.reduceAdd]
  refine V_iload_n (pc := 21) C (dk k_E_leftFor 12 rfl) rfl ?_
  refine V_ifle (pc := 22) C (dk k_E_leftFor 13 rfl) 39 rfl (by first | exact hR _ _ | with_reducible assumption | exact ⟨by omega, by omega⟩) (fun h1 => ?_) (fun h1 => ?_)
  · skip
    exfalso; omega
  · skip
    refine V_iload (pc := 25) C (dk k_E_leftFor 14 rfl) rfl ?_
    refine V_ifle (pc := 27) C (dk k_E_leftFor 15 rfl) 39 rfl (by first | exact hR _ _ | with_reducible assumption | exact ⟨by omega, by omega⟩) (fun h2 => ?_) (fun h2 => ?_)
    · skip
      exfalso; omega
    · skip
      refine V_iload_n (pc := 30) C (dk k_E_leftFor 16 rfl) rfl ?_
      refine V_iload_n (pc := 31) C (dk k_E_leftFor 17 rfl) rfl ?_
      refine V_idiv (pc := 32) C (dk k_E_leftFor 18 rfl) (by first | exact hR _ _ | with_reducible assumption | exact ⟨by omega, by omega⟩) (by first | exact hR _ _ | with_reducible assumption | exact ⟨by omega, by omega⟩) (by omega) (by omega) ?_
      refine V_iload (pc := 33) C (dk k_E_leftFor 19 rfl) rfl ?_
      refine V_irem (pc := 35) C (dk k_E_leftFor 20 rfl) (by first | exact hR _ _ | with_reducible assumption | exact ⟨by omega, by omega⟩) (by first | exact hR _ _ | with_reducible assumption | exact ⟨by omega, by omega⟩) (by omega) (by omega) ?_
      refine V_goto (pc := 36) C (dk k_E_leftFor 21 rfl) 40 rfl ?_
      refine V_iret (pc := 40) C E (dk k_E_leftFor 23 rfl) ?_
      exact ⟨rfl, rfl⟩

def i_E_nextThing : List (Nat × (Instr × Nat)) := [(0, (.iconst 0, 1)), (1, (.istore_n 2, 1)), (2, (.iconst 0, 1)), (3, (.istore_n 3, 1)), (4, (.iload_n 3, 1)), (5, (.iconst 5, 1)), (6, (.if_icmp .ge 18, 3)), (9, (.iload_n 2, 1)), (10, (.aload_n 0, 1)), (11, (.iload_n 3, 1)), (12, (.iload_n 1, 1)), (13, (.invokevirtual 70, 3)), (16, (.iadd, 1)), (17, (.istore_n 2, 1)), (18, (.iinc 3 1, 3)), (21, (.goto (-17), 3)), (24, (.aload_n 0, 1)), (25, (.getfield 9, 3)), (28, (.aload_n 0, 1)), (29, (.getfield 54, 3)), (32, (.iload_n 2, 1)), (33, (.isub, 1)), (34, (.invokestatic 43, 3)), (37, (.ireturn, 1))]
theorem k_E_nextThing : i_E_nextThing.all (fun q => decide (decode b_E_nextThing q.1 = .ok q.2)) = true := by decide +kernel

set_option maxHeartbeats 1000000 in
set_option maxRecDepth 20000 in
theorem c_E_nextThing (l : Launch) (G : GE) (σ : Wd) (pl : Nat) (π : PL) (q : Nat → Nat) (ms : List Nat) (hE : ExR σ q ms) (hK : ExK π q ms) (c t : Nat) (hc : c ≤ 200) (ht : ms[ms.length - s5 (swD q c)]? = some t) : Ct l G y_E_nextThing b_E_nextThing 4 (some (.int)) 2 45 [vR 122, vI (c : Int)] σ (Dt (some (vI (t : Int))) σ) := by
  refine Ct.of cm_E_nextThing (Nat.le_of_ble_eq_true rfl) ?_
  intro X hXl hXG hXN hRm C E
  subst hXl; subst hXG
  show V X 0 [some (vR 122), some (vI (c : Int)), none, none] [] σ
  refine V_R (fun hR => ?_)
  obtain ⟨E1, E2, E3, E4⟩ := id hE
  obtain ⟨K1, K2, K3, K4, K5, K6, K7⟩ := id hK
  have hs : s5 (swD q c) ≤ ms.length := by rw [← K1]; exact s5_le (fun p _ => swD_q q c p)
  have hl := (List.getElem?_eq_some_iff.mp ht).1
  have gt := E4 _ _ ht
  refine V_iconst (pc := 0) C (dk k_E_nextThing 0 rfl) rfl ?_
  refine V_istore_n (pc := 1) C (dk k_E_nextThing 1 rfl) (by rw [hXN]; decide) ?_
  dsimp only [lst, lstL, lz, kill, Fin.val, Nat.reduceAdd]
  refine V_iconst (pc := 2) C (dk k_E_nextThing 2 rfl) rfl ?_
  refine V_istore_n (pc := 3) C (dk k_E_nextThing 3 rfl) (by rw [hXN]; decide) ?_
  dsimp only [lst, lstL, lz, kill, Fin.val, Nat.reduceAdd]
  refine V_eq (V_loop (fun k : Nat => k ≤ 5) (fun k => [some (vR 122), some (vI (c : Int)), some (vI (s5I (swD q c) k : Nat)), some (vI (k : Int))]) (fun _ => σ) (fun k => 5 - k) (fun k hk ih => ?_) 0 (Nat.zero_le _)) rfl rfl rfl
  refine V_iload_n (pc := 4) C (dk k_E_nextThing 4 rfl) rfl ?_
  refine V_iconst (pc := 5) C (dk k_E_nextThing 5 rfl) rfl ?_
  refine V_icmpge (pc := 6) C (dk k_E_nextThing 6 rfl) 24 rfl (by first | exact hR _ _ | with_reducible assumption | exact ⟨by omega, by omega⟩) (by first | exact hR _ _ | with_reducible assumption | exact ⟨by omega, by omega⟩) (fun h1 => ?_) (fun h1 => ?_)
  · skip
    obtain rfl : k = 5 := by omega
    refine V_aload_n (pc := 24) C (dk k_E_nextThing 16 rfl) rfl ?_
    refine V_getr (pc := 25) (o2 := 123) C (dk k_E_nextThing 17 rfl) fl_E_9 kq_122 (by decide) rfl (by decide) rfl ?_
    refine V_aload_n (pc := 28) C (dk k_E_nextThing 18 rfl) rfl ?_
    refine V_geti (pc := 29) (ji := 5) C (dk k_E_nextThing 19 rfl) fl_E_54 kq_122 (by decide) rfl rfl ?_
    rw [E2]
    refine V_iload_n (pc := 32) C (dk k_E_nextThing 20 rfl) rfl ?_
    refine V_isub (pc := 33) C (dk k_E_nextThing 21 rfl) ?_
    rw [show (ms.length : Int) - ((s5I (swD q c) 5 : Nat) : Int) = ((ms.length - s5 (swD q c) : Nat) : Int) by show (ms.length : Int) - ((s5 (swD q c) : Nat) : Int) = _; omega]
    refine V_callS (pc := 34) C (dk k_E_nextThing 22 rfl) lk_E_43 cm_F_at sm_F_at (c_at _ _ _ (123) 8 ((ms.length - s5 (swD q c) : Nat) : Int) kq_123 (by decide) (by omega) (by omega)) rfl rfl (Nat.le_of_ble_eq_true rfl) (Rm.mono hRm (by decide) (by decide)) ?_
    refine V_iret (pc := 37) C E (dk k_E_nextThing 23 rfl) ?_
    exact ⟨by rw [gt], rfl⟩
  · skip
    refine V_iload_n (pc := 9) C (dk k_E_nextThing 7 rfl) rfl ?_
    refine V_aload_n (pc := 10) C (dk k_E_nextThing 8 rfl) rfl ?_
    refine V_iload_n (pc := 11) C (dk k_E_nextThing 9 rfl) rfl ?_
    refine V_iload_n (pc := 12) C (dk k_E_nextThing 10 rfl) rfl ?_
    refine V_callV (pc := 13) C (dk k_E_nextThing 11 rfl) lk_E_70 cm_E_leftFor vm_E_leftFor (c_E_leftFor _ _ _ pl π q ms hE hK k c (by omega) hc) kq_122 rfl rfl rfl (Nat.le_of_ble_eq_true rfl) (Rm.mono hRm (by decide) (by decide)) ?_
    refine V_iadd (pc := 16) C (dk k_E_nextThing 12 rfl) ?_
    refine V_istore_n (pc := 17) C (dk k_E_nextThing 13 rfl) (by rw [hXN]; decide) ?_
    dsimp only [lst, lstL, lz, kill, Fin.val, Nat.reduceAdd]
    refine V_iinc (pc := 18) C (dk k_E_nextThing 14 rfl) (by rw [hXN]; decide) rfl ?_
    dsimp only [lst, lstL, lz, kill, Fin.val, Nat.reduceAdd]
    refine V_goto (pc := 21) C (dk k_E_nextThing 15 rfl) 4 rfl ?_
    exact ih (k + 1) (by omega) (by omega)

def i_E_rueBy : List (Nat × (Instr × Nat)) := [(0, (.aload_n 1, 1)), (1, (.getfield 74, 3)), (4, (.iload_n 2, 1)), (5, (.invokestatic 43, 3)), (8, (.istore 4, 2)), (10, (.aload_n 1, 1)), (11, (.getfield 67, 3)), (14, (.iload_n 2, 1)), (15, (.invokestatic 43, 3)), (18, (.iload_n 3, 1)), (19, (.if_icmp .ne 8, 3)), (22, (.iload 4, 2)), (24, (.goto 7, 3)), (27, (.iload 4, 2)), (29, (.iconst 2, 1)), (30, (.idiv, 1)), (31, (.ireturn, 1))]
theorem k_E_rueBy : i_E_rueBy.all (fun q => decide (decode b_E_rueBy q.1 = .ok q.2)) = true := by decide +kernel

set_option maxHeartbeats 1000000 in
set_option maxRecDepth 20000 in
theorem c_E_rueBy (l : Launch) (G : GE) (σ : Wd) (pl : Nat) (π : PL) (t p : Nat) (hπ : PlR σ pl π) (ok : PLok π) (ht : t < pN π) (hp : p < 5) : Ct l G y_E_rueBy b_E_rueBy 5 (some (.int)) 1 21 [vR 122, vR pl, vI (t : Int), vI (p : Int)] σ (Dt (some (vI (swc π t p))) σ) := by
  refine Ct.of cm_E_rueBy (Nat.le_of_ble_eq_true rfl) ?_
  intro X hXl hXG hXN hRm C E
  subst hXl; subst hXG
  show V X 0 [some (vR 122), some (vR pl), some (vI (t : Int)), some (vI (p : Int)), none] [] σ
  refine V_R (fun hR => ?_)
  have hπ0 := hπ
  obtain ⟨hpl, e0, e2, e7, e10, eT, eX⟩ := hπ
  obtain ⟨hpl_1, hpl_2, hpl_3, hpl_4, hpl_5, hpl_6⟩ := kd_P hpl
  have ⟨k1, k2, k3, k4, k5, k6, kT, kX⟩ := ok
  obtain ⟨gO, gK, gU⟩ := eT t (by omega) (by omega)
  obtain ⟨kO0, kO1, kK0, kK1, kU0, kU1⟩ := kT t (by omega) (by omega)
  refine V_aload_n (pc := 0) C (dk k_E_rueBy 0 rfl) rfl ?_
  refine V_getr (pc := 1) (o2 := pl + 5) C (dk k_E_rueBy 1 rfl) fl_E_74 hpl (by decide) rfl (by decide) rfl ?_
  refine V_iload_n (pc := 4) C (dk k_E_rueBy 2 rfl) rfl ?_
  refine V_callS (pc := 5) C (dk k_E_rueBy 3 rfl) lk_E_43 cm_F_at sm_F_at (c_at _ _ _ (pl + 5) 8 (t : Int) hpl_5 (by decide) (by omega) (by omega)) rfl rfl (Nat.le_of_ble_eq_true rfl) (Rm.mono hRm (by decide) (by decide)) ?_
  rw [gU]
  refine V_istore (pc := 8) C (dk k_E_rueBy 4 rfl) (by rw [hXN]; decide) ?_
  dsimp only [lst, lstL, lz, kill, Fin.val, Nat.reduceAdd]
  refine V_aload_n (pc := 10) C (dk k_E_rueBy 5 rfl) rfl ?_
  refine V_getr (pc := 11) (o2 := pl + 2) C (dk k_E_rueBy 6 rfl) fl_E_67 hpl (by decide) rfl (by decide) rfl ?_
  refine V_iload_n (pc := 14) C (dk k_E_rueBy 7 rfl) rfl ?_
  refine V_callS (pc := 15) C (dk k_E_rueBy 8 rfl) lk_E_43 cm_F_at sm_F_at (c_at _ _ _ (pl + 2) 8 (t : Int) hpl_2 (by decide) (by omega) (by omega)) rfl rfl (Nat.le_of_ble_eq_true rfl) (Rm.mono hRm (by decide) (by decide)) ?_
  rw [gO]
  refine V_iload_n (pc := 18) C (dk k_E_rueBy 9 rfl) rfl ?_
  refine V_icmpne (pc := 19) C (dk k_E_rueBy 10 rfl) 27 rfl (by first | exact hR _ _ | with_reducible assumption | exact ⟨by omega, by omega⟩) (by first | exact hR _ _ | with_reducible assumption | exact ⟨by omega, by omega⟩) (fun h1 => ?_) (fun h1 => ?_)
  · skip
    refine V_iload (pc := 27) C (dk k_E_rueBy 13 rfl) rfl ?_
    refine V_iconst (pc := 29) C (dk k_E_rueBy 14 rfl) rfl ?_
    refine V_idiv (pc := 30) C (dk k_E_rueBy 15 rfl) (by first | exact hR _ _ | with_reducible assumption | exact ⟨by omega, by omega⟩) (by first | exact hR _ _ | with_reducible assumption | exact ⟨by omega, by omega⟩) (by omega) (by omega) ?_
    refine V_iret (pc := 31) C E (dk k_E_rueBy 16 rfl) ?_
    unfold swc
    first | (rw [if_pos (by omega)]; exact ⟨rfl, rfl⟩) | (rw [if_neg (by omega)]; exact ⟨rfl, rfl⟩)
  · skip
    refine V_iload (pc := 22) C (dk k_E_rueBy 11 rfl) rfl ?_
    refine V_goto (pc := 24) C (dk k_E_rueBy 12 rfl) 31 rfl ?_
    refine V_iret (pc := 31) C E (dk k_E_rueBy 16 rfl) ?_
    unfold swc
    first | (rw [if_pos (by omega)]; exact ⟨rfl, rfl⟩) | (rw [if_neg (by omega)]; exact ⟨rfl, rfl⟩)

def i_E_rueFrom : List (Nat × (Instr × Nat)) := [(0, (.aload_n 0, 1)), (1, (.aload_n 1, 1)), (2, (.iload_n 2, 1)), (3, (.iload_n 3, 1)), (4, (.invokevirtual 77, 3)), (7, (.aload_n 0, 1)), (8, (.getfield 21, 3)), (11, (.iload 4, 2)), (13, (.aload_n 0, 1)), (14, (.getfield 18, 3)), (17, (.iload_n 3, 1)), (18, (.invokestatic 43, 3)), (21, (.isub, 1)), (22, (.invokestatic 43, 3)), (25, (.iadd, 1)), (26, (.ireturn, 1))]
theorem k_E_rueFrom : i_E_rueFrom.all (fun q => decide (decode b_E_rueFrom q.1 = .ok q.2)) = true := by decide +kernel

set_option maxHeartbeats 1000000 in
set_option maxRecDepth 20000 in
theorem c_E_rueFrom (l : Launch) (G : GE) (σ : Wd) (pl : Nat) (π : PL) (q : Nat → Nat) (ms : List Nat) (hE : ExR σ q ms) (hK : ExK π q ms) (t p c : Nat) (v : Int) (hπ : PlR σ pl π) (ok : PLok π) (ht : t < pN π) (hp : p < 5) (hc : c < 108) (hw : swW q p ≤ c) (hv : σ 126 ((c - swW q p : Nat) : Int) = v) : Ct l G y_E_rueFrom b_E_rueFrom 5 (some (.int)) 2 45 [vR 122, vR pl, vI (t : Int), vI (p : Int), vI (c : Int)] σ (Dt (some (vI (swc π t p + v))) σ) := by
  refine Ct.of cm_E_rueFrom (Nat.le_of_ble_eq_true rfl) ?_
  intro X hXl hXG hXN hRm C E
  subst hXl; subst hXG
  show V X 0 [some (vR 122), some (vR pl), some (vI (t : Int)), some (vI (p : Int)), some (vI (c : Int))] [] σ
  refine V_R (fun hR => ?_)
  obtain ⟨E1, E2, E3, E4⟩ := id hE
  obtain ⟨K1, K2, K3, K4, K5, K6, K7⟩ := id hK
  obtain ⟨g5, g4⟩ := E1 p hp
  refine V_aload_n (pc := 0) C (dk k_E_rueFrom 0 rfl) rfl ?_
  refine V_aload_n (pc := 1) C (dk k_E_rueFrom 1 rfl) rfl ?_
  refine V_iload_n (pc := 2) C (dk k_E_rueFrom 2 rfl) rfl ?_
  refine V_iload_n (pc := 3) C (dk k_E_rueFrom 3 rfl) rfl ?_
  refine V_callV (pc := 4) C (dk k_E_rueFrom 4 rfl) lk_E_77 cm_E_rueBy vm_E_rueBy (c_E_rueBy _ _ _ pl π t p hπ ok ht hp) kq_122 rfl rfl rfl (Nat.le_of_ble_eq_true rfl) (Rm.mono hRm (by decide) (by decide)) ?_
  refine V_aload_n (pc := 7) C (dk k_E_rueFrom 5 rfl) rfl ?_
  refine V_getr (pc := 8) (o2 := 126) C (dk k_E_rueFrom 6 rfl) fl_E_21 kq_122 (by decide) rfl (by decide) rfl ?_
  refine V_iload (pc := 11) C (dk k_E_rueFrom 7 rfl) rfl ?_
  refine V_aload_n (pc := 13) C (dk k_E_rueFrom 8 rfl) rfl ?_
  refine V_getr (pc := 14) (o2 := 125) C (dk k_E_rueFrom 9 rfl) fl_E_18 kq_122 (by decide) rfl (by decide) rfl ?_
  refine V_iload_n (pc := 17) C (dk k_E_rueFrom 10 rfl) rfl ?_
  refine V_callS (pc := 18) C (dk k_E_rueFrom 11 rfl) lk_E_43 cm_F_at sm_F_at (c_at _ _ _ (125) 5 (p : Int) kq_125 (by decide) (by omega) (by omega)) rfl rfl (Nat.le_of_ble_eq_true rfl) (Rm.mono hRm (by decide) (by decide)) ?_
  rw [g5]
  refine V_isub (pc := 21) C (dk k_E_rueFrom 12 rfl) ?_
  rw [show (c : Int) - (swW q p : Int) = ((c - swW q p : Nat) : Int) by omega]
  refine V_callS (pc := 22) C (dk k_E_rueFrom 13 rfl) lk_E_43 cm_F_at sm_F_at (c_at _ _ _ (126) 108 ((c - swW q p : Nat) : Int) kq_126 (by decide) (by omega) (by omega)) rfl rfl (Nat.le_of_ble_eq_true rfl) (Rm.mono hRm (by decide) (by decide)) ?_
  refine V_iadd (pc := 25) C (dk k_E_rueFrom 14 rfl) ?_
  refine V_iret (pc := 26) C E (dk k_E_rueFrom 15 rfl) ?_
  exact ⟨by rw [hv], rfl⟩

def i_E_leastFrom : List (Nat × (Instr × Nat)) := [(0, (.aload_n 0, 1)), (1, (.iload_n 2, 1)), (2, (.invokevirtual 81, 3)), (5, (.istore_n 3, 1)), (6, (.bipush (-4), 2)), (8, (.istore 4, 2)), (10, (.iconst 0, 1)), (11, (.istore 5, 2)), (13, (.iload 5, 2)), (15, (.iconst 5, 1)), (16, (.if_icmp .ge 51, 3)), (19, (.aload_n 0, 1)), (20, (.iload 5, 2)), (22, (.iload_n 2, 1)), (23, (.invokevirtual 70, 3)), (26, (.ifCond .le 35, 3)), (29, (.aload_n 0, 1)), (30, (.aload_n 1, 1)), (31, (.iload_n 3, 1)), (32, (.iload 5, 2)), (34, (.iload_n 2, 1)), (35, (.invokevirtual 85, 3)), (38, (.istore 6, 2)), (40, (.iload 4, 2)), (42, (.bipush (-4), 2)), (44, (.if_icmp .ne 8, 3)), (47, (.iload 6, 2)), (49, (.goto 10, 3)), (52, (.iload 4, 2)), (54, (.iload 6, 2)), (56, (.invokestatic 89, 3)), (59, (.istore 4, 2)), (61, (.iinc 5 1, 3)), (64, (.goto (-51), 3)), (67, (.iload 4, 2)), (69, (.ireturn, 1))]
theorem k_E_leastFrom : i_E_leastFrom.all (fun q => decide (decode b_E_leastFrom q.1 = .ok q.2)) = true := by decide +kernel

set_option maxHeartbeats 1000000 in
set_option maxRecDepth 20000 in
theorem c_E_leastFrom (l : Launch) (G : GE) (σ : Wd) (pl : Nat) (π : PL) (q : Nat → Nat) (ms : List Nat) (hE : ExR σ q ms) (hK : ExK π q ms) (c t : Nat) (ts : List Nat) (hπ : PlR σ pl π) (ok : PLok π) (hc : c < swW q 5) (hd : ms.drop (ms.length - s5 (swD q c)) = t :: ts) (hs : s5 (swD q c) = ts.length + 1) (htm : t ∈ ms) (hU : swU π (t :: ts)) (htab : ∀ c' : Nat, c' < c → σ 126 c' = swT π q ms c') : Ct l G y_E_leastFrom b_E_leastFrom 7 (some (.int)) 3 69 [vR 122, vR pl, vI (c : Int)] σ (Dt (some (vI (swL π (t :: ts) (swD q c)))) σ) := by
  refine Ct.of cm_E_leastFrom (Nat.le_of_ble_eq_true rfl) ?_
  intro X hXl hXG hXN hRm C E
  subst hXl; subst hXG
  show V X 0 [some (vR 122), some (vR pl), some (vI (c : Int)), none, none, none, none] [] σ
  refine V_R (fun hR => ?_)
  obtain ⟨E1, E2, E3, E4⟩ := id hE
  obtain ⟨K1, K2, K3, K4, K5, K6, K7⟩ := id hK
  have ht := K5 t htm
  have hcb : ∀ p, p < 5 → swD q c p ≠ 0 → 0 ≤ (swC π t ts (swD q c)) p ∧ (swC π t ts (swD q c)) p ≤ 400 := fun p a b => by have h1 := s5_d a b; have h2 := swL_b π ts (swd (swD q c) p) (fun u z => hU u (List.mem_cons_of_mem _ z)) (by omega); have h3 := swc_b (hU t List.mem_cons_self) p; have h4 := congrArg List.length hd; rw [List.length_drop, List.length_cons] at h4; show 0 ≤ swc π t p + swL π ts (swd (swD q c) p) ∧ swc π t p + swL π ts (swd (swD q c) p) ≤ 400; omega
  have ⟨lb0, lb1⟩ : 0 ≤ swL π (t :: ts) (swD q c) ∧ swL π (t :: ts) (swD q c) ≤ 400 := by (have h2 := swL_b π (t :: ts) (swD q c) hU (by rw [List.length_cons]; omega); have h4 := congrArg List.length hd; rw [List.length_drop, List.length_cons] at h4; rw [List.length_cons] at h2; omega)
  refine V_aload_n (pc := 0) C (dk k_E_leastFrom 0 rfl) rfl ?_
  refine V_iload_n (pc := 1) C (dk k_E_leastFrom 1 rfl) rfl ?_
  refine V_callV (pc := 2) C (dk k_E_leastFrom 2 rfl) lk_E_81 cm_E_nextThing vm_E_nextThing (c_E_nextThing _ _ _ pl π q ms hE hK c t (by omega) (drop_at hd).1) kq_122 rfl rfl rfl (Nat.le_of_ble_eq_true rfl) (Rm.mono hRm (by decide) (by decide)) ?_
  refine V_istore_n (pc := 5) C (dk k_E_leastFrom 3 rfl) (by rw [hXN]; decide) ?_
  dsimp only [lst, lstL, lz, kill, Fin.val, Nat.reduceAdd]
  refine V_bipush (pc := 6) (n' := (-4)) C (dk k_E_leastFrom 4 rfl) rfl ?_
  refine V_istore (pc := 8) C (dk k_E_leastFrom 5 rfl) (by rw [hXN]; decide) ?_
  dsimp only [lst, lstL, lz, kill, Fin.val, Nat.reduceAdd]
  refine V_iconst (pc := 10) C (dk k_E_leastFrom 6 rfl) rfl ?_
  refine V_istore (pc := 11) C (dk k_E_leastFrom 7 rfl) (by rw [hXN]; decide) ?_
  dsimp only [lst, lstL, lz, kill, Fin.val, Nat.reduceAdd]
  refine V_eq (V_loop (fun p : Nat => p ≤ 5) (fun p => [some (vR 122), some (vR pl), some (vI (c : Int)), some (vI (t : Int)), some (vI (swm (swC π t ts (swD q c)) (swD q c) p)), some (vI (p : Int)), none]) (fun _ => σ) (fun p => 5 - p) (fun p hp ih => ?_) 0 (Nat.zero_le _)) rfl rfl rfl
  have ⟨mb0, mb1⟩ := swm_b (c := (swC π t ts (swD q c))) (r := swD q c) (B := 400) (by decide) p (fun u a b => by have := hcb u (by omega) b; omega)
  refine V_iload (pc := 13) C (dk k_E_leastFrom 8 rfl) rfl ?_
  refine V_iconst (pc := 15) C (dk k_E_leastFrom 9 rfl) rfl ?_
  refine V_icmpge (pc := 16) C (dk k_E_leastFrom 10 rfl) 67 rfl (by first | exact hR _ _ | with_reducible assumption | exact ⟨by omega, by omega⟩) (by first | exact hR _ _ | with_reducible assumption | exact ⟨by omega, by omega⟩) (fun h1 => ?_) (fun h1 => ?_)
  · skip
    refine V_iload (pc := 67) C (dk k_E_leastFrom 34 rfl) rfl ?_
    refine V_iret (pc := 69) C E (dk k_E_leastFrom 35 rfl) ?_
    obtain rfl : p = 5 := by omega
    exact ⟨rfl, rfl⟩
  · skip
    have hdq := swD_q q c p
    have hq8 := s5_1 (r := q) (p := p) (by omega)
    refine V_aload_n (pc := 19) C (dk k_E_leastFrom 11 rfl) rfl ?_
    refine V_iload (pc := 20) C (dk k_E_leastFrom 12 rfl) rfl ?_
    refine V_iload_n (pc := 22) C (dk k_E_leastFrom 13 rfl) rfl ?_
    refine V_callV (pc := 23) C (dk k_E_leastFrom 14 rfl) lk_E_70 cm_E_leftFor vm_E_leftFor (c_E_leftFor _ _ _ pl π q ms hE hK p c (by omega) (by omega)) kq_122 rfl rfl rfl (Nat.le_of_ble_eq_true rfl) (Rm.mono hRm (by decide) (by decide)) ?_
    refine V_ifle (pc := 26) C (dk k_E_leastFrom 15 rfl) 61 rfl (by first | exact hR _ _ | with_reducible assumption | exact ⟨by omega, by omega⟩) (fun h2 => ?_) (fun h2 => ?_)
    · skip
      refine V_iinc (pc := 61) C (dk k_E_leastFrom 32 rfl) (by rw [hXN]; decide) rfl ?_
      dsimp only [lst, lstL, lz, kill, Fin.val, Nat.reduceAdd]
      refine V_goto (pc := 64) C (dk k_E_leastFrom 33 rfl) 13 rfl ?_
      refine V_fg 6 ?_
      dsimp only [fg]
      refine V_eq (ih (p + 1) (by omega) (by omega)) ?_ rfl rfl
      rw [show swm (swC π t ts (swD q c)) (swD q c) (p + 1) = if swD q c p = 0 then swm (swC π t ts (swD q c)) (swD q c) p else if swm (swC π t ts (swD q c)) (swD q c) p = -4 then (swC π t ts (swD q c)) p else min (swm (swC π t ts (swD q c)) (swD q c) p) ((swC π t ts (swD q c)) p) from rfl]
      first | (rw [if_pos (show swD q c p = 0 by omega)]; rfl) | (rw [if_neg (show ¬ swD q c p = 0 by omega), if_pos (by assumption)]; rfl) | (rw [if_neg (show ¬ swD q c p = 0 by omega), if_neg (by assumption)]; rfl)
    · skip
      have hdp : swD q c p ≠ 0 := by omega
      have hwp := swD_W hdp
      have hw0 := swW_0 q p
      have hvp : σ 126 ((c - swW q p : Nat) : Int) = swL π ts (swd (swD q c) p) := (htab _ (by omega)).trans (swT_s hK (by omega) hdp hd)
      have ⟨cb0, cb1⟩ := hcb p (by omega) hdp
      have cb0 : 0 ≤ swc π t p + swL π ts (swd (swD q c) p) := cb0
      have cb1 : swc π t p + swL π ts (swd (swD q c) p) ≤ 400 := cb1
      refine V_aload_n (pc := 29) C (dk k_E_leastFrom 16 rfl) rfl ?_
      refine V_aload_n (pc := 30) C (dk k_E_leastFrom 17 rfl) rfl ?_
      refine V_iload_n (pc := 31) C (dk k_E_leastFrom 18 rfl) rfl ?_
      refine V_iload (pc := 32) C (dk k_E_leastFrom 19 rfl) rfl ?_
      refine V_iload_n (pc := 34) C (dk k_E_leastFrom 20 rfl) rfl ?_
      refine V_callV (pc := 35) C (dk k_E_leastFrom 21 rfl) lk_E_85 cm_E_rueFrom vm_E_rueFrom (c_E_rueFrom _ _ _ pl π q ms hE hK t p c (swL π ts (swd (swD q c) p)) hπ ok ht (by omega) (by omega) hwp hvp) kq_122 rfl rfl rfl (Nat.le_of_ble_eq_true rfl) (Rm.mono hRm (by decide) (by decide)) ?_
      refine V_istore (pc := 38) C (dk k_E_leastFrom 22 rfl) (by rw [hXN]; decide) ?_
      dsimp only [lst, lstL, lz, kill, Fin.val, Nat.reduceAdd]
      refine V_iload (pc := 40) C (dk k_E_leastFrom 23 rfl) rfl ?_
      refine V_bipush (pc := 42) (n' := (-4)) C (dk k_E_leastFrom 24 rfl) rfl ?_
      refine V_icmpne (pc := 44) C (dk k_E_leastFrom 25 rfl) 52 rfl (by first | exact hR _ _ | with_reducible assumption | exact ⟨by omega, by omega⟩) (by first | exact hR _ _ | with_reducible assumption | exact ⟨by omega, by omega⟩) (fun h3 => ?_) (fun h3 => ?_)
      · skip
        refine V_iload (pc := 52) C (dk k_E_leastFrom 28 rfl) rfl ?_
        refine V_iload (pc := 54) C (dk k_E_leastFrom 29 rfl) rfl ?_
        refine V_mmin (pc := 56) C (dk k_E_leastFrom 30 rfl) ml_E_89 (by first | exact ⟨by omega, by omega⟩ | assumption) (by first | exact ⟨by omega, by omega⟩ | assumption) (Nat.le_of_ble_eq_true rfl) (Rm.mono hRm (by decide) (by decide)) ?_
        refine V_istore (pc := 59) C (dk k_E_leastFrom 31 rfl) (by rw [hXN]; decide) ?_
        dsimp only [lst, lstL, lz, kill, Fin.val, Nat.reduceAdd]
        refine V_iinc (pc := 61) C (dk k_E_leastFrom 32 rfl) (by rw [hXN]; decide) rfl ?_
        dsimp only [lst, lstL, lz, kill, Fin.val, Nat.reduceAdd]
        refine V_goto (pc := 64) C (dk k_E_leastFrom 33 rfl) 13 rfl ?_
        refine V_fg 6 ?_
        dsimp only [fg]
        refine V_eq (ih (p + 1) (by omega) (by omega)) ?_ rfl rfl
        rw [show swm (swC π t ts (swD q c)) (swD q c) (p + 1) = if swD q c p = 0 then swm (swC π t ts (swD q c)) (swD q c) p else if swm (swC π t ts (swD q c)) (swD q c) p = -4 then (swC π t ts (swD q c)) p else min (swm (swC π t ts (swD q c)) (swD q c) p) ((swC π t ts (swD q c)) p) from rfl]
        first | (rw [if_pos (show swD q c p = 0 by omega)]; rfl) | (rw [if_neg (show ¬ swD q c p = 0 by omega), if_pos (by assumption)]; rfl) | (rw [if_neg (show ¬ swD q c p = 0 by omega), if_neg (by assumption)]; rfl)
      · skip
        refine V_iload (pc := 47) C (dk k_E_leastFrom 26 rfl) rfl ?_
        refine V_goto (pc := 49) C (dk k_E_leastFrom 27 rfl) 59 rfl ?_
        refine V_istore (pc := 59) C (dk k_E_leastFrom 31 rfl) (by rw [hXN]; decide) ?_
        dsimp only [lst, lstL, lz, kill, Fin.val, Nat.reduceAdd]
        refine V_iinc (pc := 61) C (dk k_E_leastFrom 32 rfl) (by rw [hXN]; decide) rfl ?_
        dsimp only [lst, lstL, lz, kill, Fin.val, Nat.reduceAdd]
        refine V_goto (pc := 64) C (dk k_E_leastFrom 33 rfl) 13 rfl ?_
        refine V_fg 6 ?_
        dsimp only [fg]
        refine V_eq (ih (p + 1) (by omega) (by omega)) ?_ rfl rfl
        rw [show swm (swC π t ts (swD q c)) (swD q c) (p + 1) = if swD q c p = 0 then swm (swC π t ts (swD q c)) (swD q c) p else if swm (swC π t ts (swD q c)) (swD q c) p = -4 then (swC π t ts (swD q c)) p else min (swm (swC π t ts (swD q c)) (swD q c) p) ((swC π t ts (swD q c)) p) from rfl]
        first | (rw [if_pos (show swD q c p = 0 by omega)]; rfl) | (rw [if_neg (show ¬ swD q c p = 0 by omega), if_pos (by assumption)]; rfl) | (rw [if_neg (show ¬ swD q c p = 0 by omega), if_neg (by assumption)]; rfl)

def i_E_firstBest : List (Nat × (Instr × Nat)) := [(0, (.iconst 0, 1)), (1, (.istore 4, 2)), (3, (.iload 4, 2)), (5, (.iconst 5, 1)), (6, (.if_icmp .ge 42, 3)), (9, (.aload_n 0, 1)), (10, (.iload 4, 2)), (12, (.iload_n 3, 1)), (13, (.invokevirtual 70, 3)), (16, (.ifCond .le 26, 3)), (19, (.aload_n 0, 1)), (20, (.aload_n 1, 1)), (21, (.iload_n 2, 1)), (22, (.iload 4, 2)), (24, (.iload_n 3, 1)), (25, (.invokevirtual 85, 3)), (28, (.aload_n 0, 1)), (29, (.getfield 21, 3)), (32, (.iload_n 3, 1)), (33, (.invokestatic 43, 3)), (36, (.if_icmp .ne 6, 3)), (39, (.iload 4, 2)), (41, (.ireturn, 1)), (42, (.iinc 4 1, 3)), (45, (.goto (-42), 3)), (48, (.iconst 0, 1)), (49, (.ireturn, 1))]
theorem k_E_firstBest : i_E_firstBest.all (fun q => decide (decode b_E_firstBest q.1 = .ok q.2)) = true := by decide +kernel

set_option maxHeartbeats 1000000 in
set_option maxRecDepth 20000 in
theorem c_E_firstBest (l : Launch) (G : GE) (σ : Wd) (pl : Nat) (π : PL) (q : Nat → Nat) (ms : List Nat) (hE : ExR σ q ms) (hK : ExK π q ms) (c t : Nat) (ts : List Nat) (hπ : PlR σ pl π) (ok : PLok π) (hc : c < swW q 5) (hd : ms.drop (ms.length - s5 (swD q c)) = t :: ts) (hs : s5 (swD q c) = ts.length + 1) (htm : t ∈ ms) (hU : swU π (t :: ts)) (htab : ∀ c' : Nat, c' < c → σ 126 c' = swT π q ms c') (htc : σ 126 c = swL π (t :: ts) (swD q c)) : Ct l G y_E_firstBest b_E_firstBest 5 (some (.int)) 3 69 [vR 122, vR pl, vI (t : Int), vI (c : Int)] σ (Dt (some (vI (swf (swC π t ts (swD q c)) (swD q c) (swL π (t :: ts) (swD q c)) 5 0 : Nat))) σ) := by
  refine Ct.of cm_E_firstBest (Nat.le_of_ble_eq_true rfl) ?_
  intro X hXl hXG hXN hRm C E
  subst hXl; subst hXG
  show V X 0 [some (vR 122), some (vR pl), some (vI (t : Int)), some (vI (c : Int)), none] [] σ
  refine V_R (fun hR => ?_)
  obtain ⟨E1, E2, E3, E4⟩ := id hE
  obtain ⟨K1, K2, K3, K4, K5, K6, K7⟩ := id hK
  have ht := K5 t htm
  have hcb : ∀ p, p < 5 → swD q c p ≠ 0 → 0 ≤ (swC π t ts (swD q c)) p ∧ (swC π t ts (swD q c)) p ≤ 400 := fun p a b => by have h1 := s5_d a b; have h2 := swL_b π ts (swd (swD q c) p) (fun u z => hU u (List.mem_cons_of_mem _ z)) (by omega); have h3 := swc_b (hU t List.mem_cons_self) p; have h4 := congrArg List.length hd; rw [List.length_drop, List.length_cons] at h4; show 0 ≤ swc π t p + swL π ts (swd (swD q c) p) ∧ swc π t p + swL π ts (swd (swD q c) p) ≤ 400; omega
  have ⟨lb0, lb1⟩ : 0 ≤ swL π (t :: ts) (swD q c) ∧ swL π (t :: ts) (swD q c) ≤ 400 := by (have h2 := swL_b π (t :: ts) (swD q c) hU (by rw [List.length_cons]; omega); have h4 := congrArg List.length hd; rw [List.length_drop, List.length_cons] at h4; rw [List.length_cons] at h2; omega)
  refine V_iconst (pc := 0) C (dk k_E_firstBest 0 rfl) rfl ?_
  refine V_istore (pc := 1) C (dk k_E_firstBest 1 rfl) (by rw [hXN]; decide) ?_
  dsimp only [lst, lstL, lz, kill, Fin.val, Nat.reduceAdd]
  refine V_eq (V_loop (fun p : Nat => p ≤ 5 ∧ swf (swC π t ts (swD q c)) (swD q c) (swL π (t :: ts) (swD q c)) 5 0 = swf (swC π t ts (swD q c)) (swD q c) (swL π (t :: ts) (swD q c)) (5 - p) p) (fun p => [some (vR 122), some (vR pl), some (vI (t : Int)), some (vI (c : Int)), some (vI (p : Int))]) (fun _ => σ) (fun p => 5 - p) (fun p hpp ih => ?_) 0 ⟨Nat.zero_le _, rfl⟩) rfl rfl rfl
  obtain ⟨hp, hf⟩ := hpp
  refine V_iload (pc := 3) C (dk k_E_firstBest 2 rfl) rfl ?_
  refine V_iconst (pc := 5) C (dk k_E_firstBest 3 rfl) rfl ?_
  refine V_icmpge (pc := 6) C (dk k_E_firstBest 4 rfl) 48 rfl (by first | exact hR _ _ | with_reducible assumption | exact ⟨by omega, by omega⟩) (by first | exact hR _ _ | with_reducible assumption | exact ⟨by omega, by omega⟩) (fun h1 => ?_) (fun h1 => ?_)
  · skip
    refine V_iconst (pc := 48) C (dk k_E_firstBest 25 rfl) rfl ?_
    refine V_iret (pc := 49) C E (dk k_E_firstBest 26 rfl) ?_
    obtain rfl : p = 5 := by omega
    exact ⟨by rw [hf]; rfl, rfl⟩
  · skip
    have hdq := swD_q q c p
    have hq8 := s5_1 (r := q) (p := p) (by omega)
    refine V_aload_n (pc := 9) C (dk k_E_firstBest 5 rfl) rfl ?_
    refine V_iload (pc := 10) C (dk k_E_firstBest 6 rfl) rfl ?_
    refine V_iload_n (pc := 12) C (dk k_E_firstBest 7 rfl) rfl ?_
    refine V_callV (pc := 13) C (dk k_E_firstBest 8 rfl) lk_E_70 cm_E_leftFor vm_E_leftFor (c_E_leftFor _ _ _ pl π q ms hE hK p c (by omega) (by omega)) kq_122 rfl rfl rfl (Nat.le_of_ble_eq_true rfl) (Rm.mono hRm (by decide) (by decide)) ?_
    refine V_ifle (pc := 16) C (dk k_E_firstBest 9 rfl) 42 rfl (by first | exact hR _ _ | with_reducible assumption | exact ⟨by omega, by omega⟩) (fun h2 => ?_) (fun h2 => ?_)
    · skip
      refine V_iinc (pc := 42) C (dk k_E_firstBest 23 rfl) (by rw [hXN]; decide) rfl ?_
      dsimp only [lst, lstL, lz, kill, Fin.val, Nat.reduceAdd]
      refine V_goto (pc := 45) C (dk k_E_firstBest 24 rfl) 3 rfl ?_
      have e : swf (swC π t ts (swD q c)) (swD q c) (swL π (t :: ts) (swD q c)) (5 - p) p = swf (swC π t ts (swD q c)) (swD q c) (swL π (t :: ts) (swD q c)) (5 - (p + 1)) (p + 1) := by rw [show 5 - p = 5 - (p + 1) + 1 by omega, swf]; exact if_neg (fun z => by first | omega | exact absurd z.2 (by assumption))
      exact ih (p + 1) ⟨by omega, hf.trans e⟩ (by omega)
    · skip
      have hdp : swD q c p ≠ 0 := by omega
      have hwp := swD_W hdp
      have hw0 := swW_0 q p
      have hvp : σ 126 ((c - swW q p : Nat) : Int) = swL π ts (swd (swD q c) p) := (htab _ (by omega)).trans (swT_s hK (by omega) hdp hd)
      have ⟨cb0, cb1⟩ := hcb p (by omega) hdp
      have cb0 : 0 ≤ swc π t p + swL π ts (swd (swD q c) p) := cb0
      have cb1 : swc π t p + swL π ts (swd (swD q c) p) ≤ 400 := cb1
      refine V_aload_n (pc := 19) C (dk k_E_firstBest 10 rfl) rfl ?_
      refine V_aload_n (pc := 20) C (dk k_E_firstBest 11 rfl) rfl ?_
      refine V_iload_n (pc := 21) C (dk k_E_firstBest 12 rfl) rfl ?_
      refine V_iload (pc := 22) C (dk k_E_firstBest 13 rfl) rfl ?_
      refine V_iload_n (pc := 24) C (dk k_E_firstBest 14 rfl) rfl ?_
      refine V_callV (pc := 25) C (dk k_E_firstBest 15 rfl) lk_E_85 cm_E_rueFrom vm_E_rueFrom (c_E_rueFrom _ _ _ pl π q ms hE hK t p c (swL π ts (swd (swD q c) p)) hπ ok ht (by omega) (by omega) hwp hvp) kq_122 rfl rfl rfl (Nat.le_of_ble_eq_true rfl) (Rm.mono hRm (by decide) (by decide)) ?_
      refine V_aload_n (pc := 28) C (dk k_E_firstBest 16 rfl) rfl ?_
      refine V_getr (pc := 29) (o2 := 126) C (dk k_E_firstBest 17 rfl) fl_E_21 kq_122 (by decide) rfl (by decide) rfl ?_
      refine V_iload_n (pc := 32) C (dk k_E_firstBest 18 rfl) rfl ?_
      refine V_callS (pc := 33) C (dk k_E_firstBest 19 rfl) lk_E_43 cm_F_at sm_F_at (c_at _ _ _ (126) 108 (c : Int) kq_126 (by decide) (by omega) (by omega)) rfl rfl (Nat.le_of_ble_eq_true rfl) (Rm.mono hRm (by decide) (by decide)) ?_
      rw [htc]
      refine V_icmpne (pc := 36) C (dk k_E_firstBest 20 rfl) 42 rfl (by first | exact hR _ _ | with_reducible assumption | exact ⟨by omega, by omega⟩) (by first | exact hR _ _ | with_reducible assumption | exact ⟨by omega, by omega⟩) (fun h3 => ?_) (fun h3 => ?_)
      · skip
        refine V_iinc (pc := 42) C (dk k_E_firstBest 23 rfl) (by rw [hXN]; decide) rfl ?_
        dsimp only [lst, lstL, lz, kill, Fin.val, Nat.reduceAdd]
        refine V_goto (pc := 45) C (dk k_E_firstBest 24 rfl) 3 rfl ?_
        have e : swf (swC π t ts (swD q c)) (swD q c) (swL π (t :: ts) (swD q c)) (5 - p) p = swf (swC π t ts (swD q c)) (swD q c) (swL π (t :: ts) (swD q c)) (5 - (p + 1)) (p + 1) := by rw [show 5 - p = 5 - (p + 1) + 1 by omega, swf]; exact if_neg (fun z => by first | omega | exact absurd z.2 (by assumption))
        exact ih (p + 1) ⟨by omega, hf.trans e⟩ (by omega)
      · skip
        refine V_iload (pc := 39) C (dk k_E_firstBest 21 rfl) rfl ?_
        refine V_iret (pc := 41) C E (dk k_E_firstBest 22 rfl) ?_
        have e : swf (swC π t ts (swD q c)) (swD q c) (swL π (t :: ts) (swD q c)) (5 - p) p = p := by rw [show 5 - p = 5 - (p + 1) + 1 by omega, swf]; exact if_pos ⟨hdp, by assumption⟩
        exact ⟨by rw [hf, e], rfl⟩
