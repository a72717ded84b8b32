/-- the memory m holds these, the latest first -/
def MmR (σ : Wd) (m : Nat) (π : PL) (l : List ST) : Prop := kd m = 4 ∧ 0 ≤ σ m 1 ∧ σ m 1 < 8 ∧ σ m 2 = l.length ∧ l.length ≤ 8 ∧ ∀ (k : Nat) (y : ST), l[k]? = some y → StR σ (m + 2 + 5 * ((σ m 1 + 7 - k) % 8).toNat) π y
theorem MmR.push {σ τ : Wd} {m s sl : Nat} {π : PL} {x : ST} {l : List ST} (ok : PLok π) (h : MmR σ m π l) (hx : StR σ s π x) (esl : sl = m + 2 + 5 * (σ m 1).toNat)
    (hc : τ sl 0 = σ s 0 ∧ τ sl 1 = σ s 1 ∧ (∀ i : Int, 0 ≤ i → i < 5 → τ (sl + 1) i = σ (s + 1) i ∧ τ (sl + 2) i = σ (s + 2) i) ∧ (∀ i : Int, 0 ≤ i → i < 8 → τ (sl + 3) i = σ (s + 3) i ∧ τ (sl + 4) i = σ (s + 4) i)) (hf : Fr sl 5 σ τ) :
    MmR (up (up τ m 1 ((σ m 1 + 1) % 8)) m 2 (min (σ m 2 + 1) 8)) m π ((x :: l).take 8) := by
  obtain ⟨h0, h1, h2, h3, h4, h5⟩ := h
  obtain ⟨hm1, hmj⟩ := kd_M h0
  have e1 : up (up τ m 1 ((σ m 1 + 1) % 8)) m 2 (min (σ m 2 + 1) 8) m 1 = (σ m 1 + 1) % 8 := by
    simp (disch := omega) only [up_ne2, up_at]
  have e2 : up (up τ m 1 ((σ m 1 + 1) % 8)) m 2 (min (σ m 2 + 1) 8) m 2 = min (σ m 2 + 1) 8 := up_at _ _ _ _
  have e3 : ∀ k, k ≠ m → up (up τ m 1 ((σ m 1 + 1) % 8)) m 2 (min (σ m 2 + 1) 8) k = τ k := fun k hk => by rw [up_row _ _ _ hk, up_row _ _ _ hk]
  have hlen : ((x :: l).take 8).length = min 8 (l.length + 1) := by rw [List.length_take, List.length_cons]
  refine ⟨h0, by rw [e1]; omega, by rw [e1]; omega, by rw [e2, h3, hlen]; omega, by rw [hlen]; omega, fun k y hk => ?_⟩
  rw [e1]
  have hk8 : k < 8 := by
    have := (List.getElem?_eq_some_iff.mp hk).1
    omega
  rw [List.getElem?_take, if_pos hk8] at hk
  rcases k with _ | k
  · simp at hk
    subst hk
    have ei : m + 2 + 5 * (((σ m 1 + 1) % 8 + 7 - ((0 : Nat) : Int)) % 8).toNat = sl := by rw [esl]; omega
    rw [ei]
    have hs7 : kd sl = 7 := by rw [esl]; exact hmj _ (by omega)
    exact (StR.copy hs7 ok hx hc.1 hc.2.1 hc.2.2.1 hc.2.2.2).fr (fun k a b => e3 k (by omega))
  · have hk2 : l[k]? = some y := by simpa using hk
    have ei : m + 2 + 5 * (((σ m 1 + 1) % 8 + 7 - ((k + 1 : Nat) : Int)) % 8).toNat = m + 2 + 5 * ((σ m 1 + 7 - (k : Int)) % 8).toNat := by omega
    rw [ei]
    refine (h5 k y hk2).fr (fun j a b => ?_)
    rw [e3 j (by omega)]
    exact hf j (by omega)
theorem MmR.pop {σ τ : Wd} {m s : Nat} {π : PL} {y : ST} {l : List ST} (h : MmR σ m π (y :: l)) (hs : kd s = 7) (hsm : s + 5 ≤ m ∨ m + 42 ≤ s) (hf : Fr s 5 σ τ) :
    MmR (up (up τ m 1 ((σ m 1 + 7) % 8)) m 2 (σ m 2 - 1)) m π l := by
  obtain ⟨h0, h1, h2, h3, h4, h5⟩ := h
  have e1 : up (up τ m 1 ((σ m 1 + 7) % 8)) m 2 (σ m 2 - 1) m 1 = (σ m 1 + 7) % 8 := by
    simp (disch := omega) only [up_ne2, up_at]
  have e2 : up (up τ m 1 ((σ m 1 + 7) % 8)) m 2 (σ m 2 - 1) m 2 = σ m 2 - 1 := up_at _ _ _ _
  have e3 : ∀ k, k ≠ m → up (up τ m 1 ((σ m 1 + 7) % 8)) m 2 (σ m 2 - 1) k = τ k := fun k hk => by rw [up_row _ _ _ hk, up_row _ _ _ hk]
  rw [List.length_cons] at h3 h4
  refine ⟨h0, by rw [e1]; omega, by rw [e1]; omega, by rw [e2, h3]; omega, by omega, fun k z hk => ?_⟩
  rw [e1]
  have hk8 : k < l.length := (List.getElem?_eq_some_iff.mp hk).1
  have hk2 : (y :: l)[k + 1]? = some z := by simpa using hk
  have ei : m + 2 + 5 * (((σ m 1 + 7) % 8 + 7 - (k : Int)) % 8).toNat = m + 2 + 5 * ((σ m 1 + 7 - ((k + 1 : Nat) : Int)) % 8).toNat := by omega
  rw [ei]
  refine (h5 (k + 1) z hk2).fr (fun j a b => ?_)
  rw [e3 j (by omega)]
  exact hf j (by omega)

def i_M_push : List (Nat × (Instr × Nat)) := [(0, (.aload_n 0, 1)), (1, (.aload_n 0, 1)), (2, (.getfield 16, 3)), (5, (.invokevirtual 20, 3)), (8, (.astore_n 2, 1)), (9, (.aload_n 2, 1)), (10, (.ifnonnull 4, 3)), (13, (.return_, 1)), (14, (.aload_n 2, 1)), (15, (.aload_n 1, 1)), (16, (.invokevirtual 24, 3)), (19, (.aload_n 0, 1)), (20, (.aload_n 0, 1)), (21, (.getfield 16, 3)), (24, (.iconst 1, 1)), (25, (.iadd, 1)), (26, (.bipush 8, 2)), (28, (.irem, 1)), (29, (.putfield 16, 3)), (32, (.aload_n 0, 1)), (33, (.aload_n 0, 1)), (34, (.getfield 28, 3)), (37, (.iconst 1, 1)), (38, (.iadd, 1)), (39, (.bipush 8, 2)), (41, (.invokestatic 31, 3)), (44, (.putfield 28, 3)), (47, (.return_, 1))]
theorem k_M_push : i_M_push.all (fun q => decide (decode b_M_push q.1 = .ok q.2)) = true := by decide +kernel

set_option maxHeartbeats 1000000 in
set_option maxRecDepth 20000 in
theorem c_M_push (l : Launch) (G : GE) (σ : Wd) (m s : Nat) (π : PL) (x : ST) (ys : List ST) (ok : PLok π) (hM : MmR σ m π ys) (hx : StR σ s π x) (hsm : s + 5 ≤ m ∨ m + 42 ≤ s) : Ct l G y_M_push b_M_push 3 (none) 3 65 [vR m, vR s] σ (Rt none (fun σ' => MmR σ' m π ((x :: ys).take 8) ∧ Fr m 42 σ σ')) := by
  refine Ct.of cm_M_push (Nat.le_of_ble_eq_true rfl) ?_
  intro X hXl hXG hXN hRm C E
  subst hXl; subst hXG
  show V X 0 [some (vR m), some (vR s), none] [] σ
  refine V_R (fun hR => ?_)
  obtain ⟨hm, m1, m2, m3, m4, m5⟩ := id hM
  have hs := hx.1
  obtain ⟨hm_1, hmj⟩ := kd_M hm
  obtain ⟨sl, esl⟩ : ∃ sl, sl = m + 2 + 5 * (σ m 1).toNat := ⟨_, rfl⟩
  have hsl : kd sl = 7 := by rw [esl]; exact hmj _ (by omega)
  refine V_aload_n (pc := 0) C (dk k_M_push 0 rfl) rfl ?_
  refine V_aload_n (pc := 1) C (dk k_M_push 1 rfl) rfl ?_
  refine V_geti (pc := 2) (ji := 1) C (dk k_M_push 2 rfl) fl_M_16 hm (by decide) rfl rfl ?_
  refine V_callV (pc := 5) C (dk k_M_push 3 rfl) lk_M_20 cm_M_slotAt vm_M_slotAt (c_M_slotAt _ _ _ m (σ m 1) hm m1 m2) hm rfl rfl rfl (Nat.le_of_ble_eq_true rfl) (Rm.mono hRm (by decide) (by decide)) ?_
  rw [← esl]
  refine V_astore_n (pc := 8) C (dk k_M_push 4 rfl) (by rw [hXN]; decide) ?_
  dsimp only [lst, lstL, lz, kill, Fin.val, Nat.reduceAdd]
  refine V_aload_n (pc := 9) C (dk k_M_push 5 rfl) rfl ?_
  refine V_ifnonnull (pc := 10) C (dk k_M_push 6 rfl) 14 rfl ?_
  refine V_aload_n (pc := 14) C (dk k_M_push 8 rfl) rfl ?_
  refine V_aload_n (pc := 15) C (dk k_M_push 9 rfl) rfl ?_
  refine V_callV0r (pc := 16) C (dk k_M_push 10 rfl) lk_M_24 cm_S_copyFrom vm_S_copyFrom (c_S_copyFrom _ _ _ sl s hsl hs (by omega)) hsl rfl rfl rfl (Nat.le_of_ble_eq_true rfl) (Rm.mono hRm (by decide) (by decide)) (fun τ1 hq1 => ?_)
  refine V_R (fun hR => ?_)
  have em : τ1 m = σ m := hq1.2 m (Or.inl (by omega))
  refine V_aload_n (pc := 19) C (dk k_M_push 11 rfl) rfl ?_
  refine V_aload_n (pc := 20) C (dk k_M_push 12 rfl) rfl ?_
  refine V_geti (pc := 21) (ji := 1) C (dk k_M_push 13 rfl) fl_M_16 hm (by decide) rfl rfl ?_
  rw [em]
  refine V_iconst (pc := 24) C (dk k_M_push 14 rfl) rfl ?_
  refine V_iadd (pc := 25) C (dk k_M_push 15 rfl) ?_
  refine V_bipush (pc := 26) (n' := 8) C (dk k_M_push 16 rfl) rfl ?_
  refine V_irem (pc := 28) C (dk k_M_push 17 rfl) ⟨by omega, by omega⟩ ⟨by omega, by omega⟩ (by omega) (by omega) ?_
  refine V_puti (pc := 29) (ji := 1) C (dk k_M_push 18 rfl) fl_M_16 fw_4_1 hm (by decide) rfl rfl ⟨by omega, by omega⟩ ?_
  refine V_R (fun hR => ?_)
  refine V_aload_n (pc := 32) C (dk k_M_push 19 rfl) rfl ?_
  refine V_aload_n (pc := 33) C (dk k_M_push 20 rfl) rfl ?_
  refine V_geti (pc := 34) (ji := 2) C (dk k_M_push 21 rfl) fl_M_28 hm (by decide) rfl rfl ?_
  have em2 : up τ1 m 1 ((σ m 1 + 1) % 8) m 2 = σ m 2 := by rw [up_ne2 _ (by decide), em]
  rw [em2]
  refine V_iconst (pc := 37) C (dk k_M_push 22 rfl) rfl ?_
  refine V_iadd (pc := 38) C (dk k_M_push 23 rfl) ?_
  refine V_bipush (pc := 39) (n' := 8) C (dk k_M_push 24 rfl) rfl ?_
  refine V_mmin (pc := 41) C (dk k_M_push 25 rfl) ml_M_31 (by first | exact ⟨by omega, by omega⟩ | assumption) (by first | exact ⟨by omega, by omega⟩ | assumption) (Nat.le_of_ble_eq_true rfl) (Rm.mono hRm (by decide) (by decide)) ?_
  refine V_puti (pc := 44) (ji := 2) C (dk k_M_push 26 rfl) fl_M_28 fw_4_2 hm (by decide) rfl rfl ⟨by omega, by omega⟩ ?_
  refine V_R (fun hR => ?_)
  refine V_vret (pc := 47) C E (dk k_M_push 27 rfl) ?_
  refine ⟨rfl, hM.push ok hx esl hq1.1 hq1.2, ((hq1.2.wide (by omega) (by omega)).up _ _ (by omega) (by omega)).up _ _ (by omega) (by omega)⟩

def i_M_popInto : List (Nat × (Instr × Nat)) := [(0, (.aload_n 0, 1)), (1, (.getfield 16, 3)), (4, (.bipush 8, 2)), (6, (.iadd, 1)), (7, (.iconst 1, 1)), (8, (.isub, 1)), (9, (.bipush 8, 2)), (11, (.irem, 1)), (12, (.istore_n 2, 1)), (13, (.aload_n 0, 1)), (14, (.iload_n 2, 1)), (15, (.invokevirtual 20, 3)), (18, (.astore_n 3, 1)), (19, (.aload_n 0, 1)), (20, (.getfield 28, 3)), (23, (.ifCond .le 7, 3)), (26, (.aload_n 3, 1)), (27, (.ifnonnull 5, 3)), (30, (.iconst 0, 1)), (31, (.ireturn, 1)), (32, (.aload_n 1, 1)), (33, (.aload_n 3, 1)), (34, (.invokevirtual 24, 3)), (37, (.aload_n 0, 1)), (38, (.iload_n 2, 1)), (39, (.putfield 16, 3)), (42, (.aload_n 0, 1)), (43, (.dup, 1)), (44, (.getfield 28, 3)), (47, (.iconst 1, 1)), (48, (.isub, 1)), (49, (.putfield 28, 3)), (52, (.iconst 1, 1)), (53, (.ireturn, 1))]
theorem k_M_popInto : i_M_popInto.all (fun q => decide (decode b_M_popInto q.1 = .ok q.2)) = true := by decide +kernel

set_option maxHeartbeats 1000000 in
set_option maxRecDepth 20000 in
theorem c_M_popInto (l : Launch) (G : GE) (σ : Wd) (m s : Nat) (π : PL) (y : ST) (ys : List ST) (ok : PLok π) (hM : MmR σ m π (y :: ys)) (hs : kd s = 7) (hsm : s + 5 ≤ m ∨ m + 42 ≤ s) : Ct l G y_M_popInto b_M_popInto 4 (some (.boolean)) 3 65 [vR m, vR s] σ (Rt (some (vI 1)) (fun σ' => MmR σ' m π ys ∧ StR σ' s π y ∧ ∀ k, k ≠ m → (k < s ∨ s + 5 ≤ k) → σ' k = σ k)) := by
  refine Ct.of cm_M_popInto (Nat.le_of_ble_eq_true rfl) ?_
  intro X hXl hXG hXN hRm C E
  subst hXl; subst hXG
  show V X 0 [some (vR m), some (vR s), none, none] [] σ
  refine V_R (fun hR => ?_)
  obtain ⟨hm, m1, m2, m3, m4, m5⟩ := id hM
  obtain ⟨hm_1, hmj⟩ := kd_M hm
  obtain ⟨sl, esl⟩ : ∃ sl, sl = m + 2 + 5 * ((σ m 1 + 7) % 8).toNat := ⟨_, rfl⟩
  have hsl : kd sl = 7 := by rw [esl]; exact hmj _ (by omega)
  rw [List.length_cons] at m3 m4
  have hy := m5 0 y rfl
  have e0 : m + 2 + 5 * ((σ m 1 + 7 - ((0 : Nat) : Int)) % 8).toNat = sl := by rw [esl]; omega
  rw [e0] at hy
  refine V_aload_n (pc := 0) C (dk k_M_popInto 0 rfl) rfl ?_
  refine V_geti (pc := 1) (ji := 1) C (dk k_M_popInto 1 rfl) fl_M_16 hm (by decide) rfl rfl ?_
  refine V_bipush (pc := 4) (n' := 8) C (dk k_M_popInto 2 rfl) rfl ?_
  refine V_iadd (pc := 6) C (dk k_M_popInto 3 rfl) ?_
  refine V_iconst (pc := 7) C (dk k_M_popInto 4 rfl) rfl ?_
  refine V_isub (pc := 8) C (dk k_M_popInto 5 rfl) ?_
  refine V_bipush (pc := 9) (n' := 8) C (dk k_M_popInto 6 rfl) rfl ?_
  rw [show σ m 1 + 8 - 1 = σ m 1 + 7 by omega]
  refine V_irem (pc := 11) C (dk k_M_popInto 7 rfl) ⟨by omega, by omega⟩ ⟨by omega, by omega⟩ (by omega) (by omega) ?_
  refine V_istore_n (pc := 12) C (dk k_M_popInto 8 rfl) (by rw [hXN]; decide) ?_
  dsimp only [lst, lstL, lz, kill, Fin.val, Nat.reduceAdd]
  refine V_aload_n (pc := 13) C (dk k_M_popInto 9 rfl) rfl ?_
  refine V_iload_n (pc := 14) C (dk k_M_popInto 10 rfl) rfl ?_
  refine V_callV (pc := 15) C (dk k_M_popInto 11 rfl) lk_M_20 cm_M_slotAt vm_M_slotAt (c_M_slotAt _ _ _ m ((σ m 1 + 7) % 8) hm (by omega) (by omega)) hm rfl rfl rfl (Nat.le_of_ble_eq_true rfl) (Rm.mono hRm (by decide) (by decide)) ?_
  rw [← esl]
  refine V_astore_n (pc := 18) C (dk k_M_popInto 12 rfl) (by rw [hXN]; decide) ?_
  dsimp only [lst, lstL, lz, kill, Fin.val, Nat.reduceAdd]
  refine V_aload_n (pc := 19) C (dk k_M_popInto 13 rfl) rfl ?_
  refine V_geti (pc := 20) (ji := 2) C (dk k_M_popInto 14 rfl) fl_M_28 hm (by decide) rfl rfl ?_
  refine V_ifle (pc := 23) C (dk k_M_popInto 15 rfl) 30 rfl (by first | exact hR _ _ | with_reducible assumption | exact ⟨by omega, by omega⟩) (fun h1 => ?_) (fun h1 => ?_)
  · skip
    exfalso; omega
  · skip
    refine V_aload_n (pc := 26) C (dk k_M_popInto 16 rfl) rfl ?_
    refine V_ifnonnull (pc := 27) C (dk k_M_popInto 17 rfl) 32 rfl ?_
    refine V_aload_n (pc := 32) C (dk k_M_popInto 20 rfl) rfl ?_
    refine V_aload_n (pc := 33) C (dk k_M_popInto 21 rfl) rfl ?_
    refine V_callV0r (pc := 34) C (dk k_M_popInto 22 rfl) lk_M_24 cm_S_copyFrom vm_S_copyFrom (c_S_copyFrom _ _ _ s sl hs hsl (by omega)) hs rfl rfl rfl (Nat.le_of_ble_eq_true rfl) (Rm.mono hRm (by decide) (by decide)) (fun τ1 hq1 => ?_)
    refine V_R (fun hR => ?_)
    have em : τ1 m = σ m := hq1.2 m (by omega)
    refine V_aload_n (pc := 37) C (dk k_M_popInto 23 rfl) rfl ?_
    refine V_iload_n (pc := 38) C (dk k_M_popInto 24 rfl) rfl ?_
    refine V_puti (pc := 39) (ji := 1) C (dk k_M_popInto 25 rfl) fl_M_16 fw_4_1 hm (by decide) rfl rfl ⟨by omega, by omega⟩ ?_
    refine V_R (fun hR => ?_)
    refine V_aload_n (pc := 42) C (dk k_M_popInto 26 rfl) rfl ?_
    refine V_dupR (pc := 43) C (dk k_M_popInto 27 rfl) ?_
    refine V_geti (pc := 44) (ji := 2) C (dk k_M_popInto 28 rfl) fl_M_28 hm (by decide) rfl rfl ?_
    have em2 : up τ1 m 1 ((σ m 1 + 7) % 8) m 2 = σ m 2 := by rw [up_ne2 _ (by decide), em]
    rw [em2]
    refine V_iconst (pc := 47) C (dk k_M_popInto 29 rfl) rfl ?_
    refine V_isub (pc := 48) C (dk k_M_popInto 30 rfl) ?_
    refine V_puti (pc := 49) (ji := 2) C (dk k_M_popInto 31 rfl) fl_M_28 fw_4_2 hm (by decide) rfl rfl ⟨by omega, by omega⟩ ?_
    refine V_R (fun hR => ?_)
    refine V_iconst (pc := 52) C (dk k_M_popInto 32 rfl) rfl ?_
    refine V_zret (pc := 53) C (by first | exact Or.inl rfl | exact Or.inr rfl | (split <;> first | exact Or.inl rfl | exact Or.inr rfl) | omega) E (dk k_M_popInto 33 rfl) ?_
    have hfin : ∀ k, k ≠ m → up (up τ1 m 1 ((σ m 1 + 7) % 8)) m 2 (σ m 2 - 1) k = τ1 k := fun k hk => by rw [up_row _ _ _ hk, up_row _ _ _ hk]
    refine ⟨rfl, hM.pop hs hsm hq1.2, (StR.copy hs ok hy hq1.1.1 hq1.1.2.1 hq1.1.2.2.1 hq1.1.2.2.2).fr (fun k a b => hfin k (by omega)), fun k hk1 hk2 => ?_⟩
    rw [hfin k hk1]; exact hq1.2 k hk2

set_option maxHeartbeats 1000000 in
set_option maxRecDepth 20000 in
theorem c_M_popInto0 (l : Launch) (G : GE) (σ : Wd) (m s : Nat) (π : PL) (hM : MmR σ m π []) : Ct l G y_M_popInto b_M_popInto 4 (some (.boolean)) 3 65 [vR m, vR s] σ (Dt (some (vI 0)) σ) := by
  refine Ct.of cm_M_popInto (Nat.le_of_ble_eq_true rfl) ?_
  intro X hXl hXG hXN hRm C E
  subst hXl; subst hXG
  show V X 0 [some (vR m), some (vR s), none, none] [] σ
  refine V_R (fun hR => ?_)
  obtain ⟨hm, m1, m2, m3, m4, m5⟩ := id hM
  obtain ⟨hm_1, hmj⟩ := kd_M hm
  obtain ⟨sl, esl⟩ : ∃ sl, sl = m + 2 + 5 * ((σ m 1 + 7) % 8).toNat := ⟨_, rfl⟩
  have hsl : kd sl = 7 := by rw [esl]; exact hmj _ (by omega)
  refine V_aload_n (pc := 0) C (dk k_M_popInto 0 rfl) rfl ?_
  refine V_geti (pc := 1) (ji := 1) C (dk k_M_popInto 1 rfl) fl_M_16 hm (by decide) rfl rfl ?_
  refine V_bipush (pc := 4) (n' := 8) C (dk k_M_popInto 2 rfl) rfl ?_
  refine V_iadd (pc := 6) C (dk k_M_popInto 3 rfl) ?_
  refine V_iconst (pc := 7) C (dk k_M_popInto 4 rfl) rfl ?_
  refine V_isub (pc := 8) C (dk k_M_popInto 5 rfl) ?_
  refine V_bipush (pc := 9) (n' := 8) C (dk k_M_popInto 6 rfl) rfl ?_
  rw [show σ m 1 + 8 - 1 = σ m 1 + 7 by omega]
  refine V_irem (pc := 11) C (dk k_M_popInto 7 rfl) ⟨by omega, by omega⟩ ⟨by omega, by omega⟩ (by omega) (by omega) ?_
  refine V_istore_n (pc := 12) C (dk k_M_popInto 8 rfl) (by rw [hXN]; decide) ?_
  dsimp only [lst, lstL, lz, kill, Fin.val, Nat.reduceAdd]
  refine V_aload_n (pc := 13) C (dk k_M_popInto 9 rfl) rfl ?_
  refine V_iload_n (pc := 14) C (dk k_M_popInto 10 rfl) rfl ?_
  refine V_callV (pc := 15) C (dk k_M_popInto 11 rfl) lk_M_20 cm_M_slotAt vm_M_slotAt (c_M_slotAt _ _ _ m ((σ m 1 + 7) % 8) hm (by omega) (by omega)) hm rfl rfl rfl (Nat.le_of_ble_eq_true rfl) (Rm.mono hRm (by decide) (by decide)) ?_
  rw [← esl]
  refine V_astore_n (pc := 18) C (dk k_M_popInto 12 rfl) (by rw [hXN]; decide) ?_
  dsimp only [lst, lstL, lz, kill, Fin.val, Nat.reduceAdd]
  refine V_aload_n (pc := 19) C (dk k_M_popInto 13 rfl) rfl ?_
  refine V_geti (pc := 20) (ji := 2) C (dk k_M_popInto 14 rfl) fl_M_28 hm (by decide) rfl rfl ?_
  refine V_ifle (pc := 23) C (dk k_M_popInto 15 rfl) 30 rfl (by first | exact hR _ _ | with_reducible assumption | exact ⟨by omega, by omega⟩) (fun h1 => ?_) (fun h1 => ?_)
  · skip
    refine V_iconst (pc := 30) C (dk k_M_popInto 18 rfl) rfl ?_
    refine V_zret (pc := 31) C (by first | exact Or.inl rfl | exact Or.inr rfl | (split <;> first | exact Or.inl rfl | exact Or.inr rfl) | omega) E (dk k_M_popInto 19 rfl) ?_
    first | exact ⟨rfl, rfl⟩ | (refine ⟨?_, rfl⟩; first | (rw [if_pos (by omega)]; done) | (rw [if_neg (by omega)]; done))
  · skip
    exfalso; rw [List.length_nil] at m3; omega

/-- the shop's plan in use -/
def FR (σ : Wd) (pl : Nat) (π : PL) : Prop := (σ 0 2).toNat = pl ∧ PlR σ pl π
/-- how near by a kind behind so many days -/
def cel (k n d : Int) : Nat → Int
  | 0 => n
  | i + 1 => nx k (cel k n d i) (d + i)
theorem nx_b {k n d : Int} (h0 : 0 ≤ n) (h1 : n ≤ 99) : 0 ≤ nx k n d ∧ nx k n d ≤ 99 := by
  unfold nx
  repeat' split
  all_goals omega
theorem cel_b {k n d : Int} (h0 : 0 ≤ n) (h1 : n ≤ 99) : ∀ i : Nat, 0 ≤ cel k n d i ∧ cel k n d i ≤ 99
  | 0 => ⟨h0, h1⟩
  | i + 1 => nx_b (cel_b h0 h1 i).1 (cel_b h0 h1 i).2
def lkq (t k n d : Int) (q : Int × (Int × Int)) : Bool := !(decide (q.1 = t)) || decide (cel k n d q.2.1.toNat = q.2.2)
/-- what is seen -/
def LkR (σ : Wd) (l : List (Int × (Int × Int))) : Prop := σ 113 3 = l.length ∧ l.length ≤ 6 ∧ ∀ (k : Nat) (q : Int × (Int × Int)), l[k]? = some q → σ 114 k = q.1 ∧ σ 115 k = q.2.1 ∧ σ 116 k = q.2.2 ∧ 0 ≤ q.2.1 ∧ q.2.1 ≤ 20 ∧ 0 ≤ q.2.2 ∧ q.2.2 ≤ 99

def i_F_isThing : List (Nat × (Instr × Nat)) := [(0, (.iload_n 1, 1)), (1, (.ifCond .lt 18, 3)), (4, (.iload_n 1, 1)), (5, (.aload_n 0, 1)), (6, (.getfield 26, 3)), (9, (.getfield 196, 3)), (12, (.if_icmp .ge 7, 3)), (15, (.iconst 1, 1)), (16, (.goto 4, 3)), (19, (.iconst 0, 1)), (20, (.ireturn, 1))]
theorem k_F_isThing : i_F_isThing.all (fun q => decide (decode b_F_isThing q.1 = .ok q.2)) = true := by decide +kernel

set_option maxHeartbeats 1000000 in
set_option maxRecDepth 20000 in
theorem c_F_isThing (l : Launch) (G : GE) (σ : Wd) (pl : Nat) (π : PL) (t : Int) (hF : FR σ pl π) (ok : PLok π) (ht : inR t) : Ct l G y_F_isThing b_F_isThing 2 (some (.boolean)) 0 0 [vR 0, vI t] σ (Dt (some (vI (if 0 ≤ t ∧ t < pN π then 1 else 0))) σ) := by
  refine Ct.of cm_F_isThing (Nat.le_of_ble_eq_true rfl) ?_
  intro X hXl hXG hXN hRm C E
  subst hXl; subst hXG
  have ⟨ht_1, ht_2⟩ := ht
  show V X 0 [some (vR 0), some (vI t)] [] σ
  refine V_R (fun hR => ?_)
  obtain ⟨hm_pl, hπ⟩ := hF
  have hπ0 := hπ
  obtain ⟨hpl, e0, e2, e7, e10, eT, eX⟩ := hπ
  obtain ⟨hpl_1, hpl_2, hpl_3, hpl_4, hpl_5, hpl_6⟩ := kd_P hpl
  have ⟨k1, k2, k3, k4, k5, k6, kT, kX⟩ := ok
  refine V_iload_n (pc := 0) C (dk k_F_isThing 0 rfl) rfl ?_
  refine V_iflt (pc := 1) C (dk k_F_isThing 1 rfl) 19 rfl (by first | exact hR _ _ | with_reducible assumption | exact ⟨by omega, by omega⟩) (fun h1 => ?_) (fun h1 => ?_)
  · skip
    refine V_iconst (pc := 19) C (dk k_F_isThing 9 rfl) rfl ?_
    refine V_zret (pc := 20) C (by first | exact Or.inl rfl | exact Or.inr rfl | (split <;> first | exact Or.inl rfl | exact Or.inr rfl) | omega) E (dk k_F_isThing 10 rfl) ?_
    first | exact ⟨rfl, rfl⟩ | (refine ⟨?_, rfl⟩; first | (rw [if_pos (by omega)]; done) | (rw [if_neg (by omega)]; done))
  · skip
    refine V_iload_n (pc := 4) C (dk k_F_isThing 2 rfl) rfl ?_
    refine V_aload_n (pc := 5) C (dk k_F_isThing 3 rfl) rfl ?_
    refine V_getm (pc := 6) (o2 := pl) C (dk k_F_isThing 4 rfl) fl_F_26 kq_0 (by decide) rfl hm_pl ?_
    refine V_geti (pc := 9) (ji := 2) C (dk k_F_isThing 5 rfl) fl_F_196 hpl (by decide) rfl rfl ?_
    refine V_icmpge (pc := 12) C (dk k_F_isThing 6 rfl) 19 rfl (by first | exact hR _ _ | with_reducible assumption | exact ⟨by omega, by omega⟩) (by first | exact hR _ _ | with_reducible assumption | exact ⟨by omega, by omega⟩) (fun h2 => ?_) (fun h2 => ?_)
    · skip
      refine V_iconst (pc := 19) C (dk k_F_isThing 9 rfl) rfl ?_
      refine V_zret (pc := 20) C (by first | exact Or.inl rfl | exact Or.inr rfl | (split <;> first | exact Or.inl rfl | exact Or.inr rfl) | omega) E (dk k_F_isThing 10 rfl) ?_
      first | exact ⟨rfl, rfl⟩ | (refine ⟨?_, rfl⟩; first | (rw [if_pos (by omega)]; done) | (rw [if_neg (by omega)]; done))
    · skip
      refine V_iconst (pc := 15) C (dk k_F_isThing 7 rfl) rfl ?_
      refine V_goto (pc := 16) C (dk k_F_isThing 8 rfl) 20 rfl ?_
      refine V_zret (pc := 20) C (by first | exact Or.inl rfl | exact Or.inr rfl | (split <;> first | exact Or.inl rfl | exact Or.inr rfl) | omega) E (dk k_F_isThing 10 rfl) ?_
      first | exact ⟨rfl, rfl⟩ | (refine ⟨?_, rfl⟩; first | (rw [if_pos (by omega)]; done) | (rw [if_neg (by omega)]; done))

def i_F_isPerson : List (Nat × (Instr × Nat)) := [(0, (.iload_n 1, 1)), (1, (.ifCond .lt 18, 3)), (4, (.iload_n 1, 1)), (5, (.aload_n 0, 1)), (6, (.getfield 26, 3)), (9, (.getfield 106, 3)), (12, (.if_icmp .ge 7, 3)), (15, (.iconst 1, 1)), (16, (.goto 4, 3)), (19, (.iconst 0, 1)), (20, (.ireturn, 1))]
theorem k_F_isPerson : i_F_isPerson.all (fun q => decide (decode b_F_isPerson q.1 = .ok q.2)) = true := by decide +kernel

set_option maxHeartbeats 1000000 in
set_option maxRecDepth 20000 in
theorem c_F_isPerson (l : Launch) (G : GE) (σ : Wd) (pl : Nat) (π : PL) (t : Int) (hF : FR σ pl π) (ok : PLok π) (ht : inR t) : Ct l G y_F_isPerson b_F_isPerson 2 (some (.boolean)) 0 0 [vR 0, vI t] σ (Dt (some (vI (if 0 ≤ t ∧ t < pP π then 1 else 0))) σ) := by
  refine Ct.of cm_F_isPerson (Nat.le_of_ble_eq_true rfl) ?_
  intro X hXl hXG hXN hRm C E
  subst hXl; subst hXG
  have ⟨ht_1, ht_2⟩ := ht
  show V X 0 [some (vR 0), some (vI t)] [] σ
  refine V_R (fun hR => ?_)
  obtain ⟨hm_pl, hπ⟩ := hF
  have hπ0 := hπ
  obtain ⟨hpl, e0, e2, e7, e10, eT, eX⟩ := hπ
  obtain ⟨hpl_1, hpl_2, hpl_3, hpl_4, hpl_5, hpl_6⟩ := kd_P hpl
  have ⟨k1, k2, k3, k4, k5, k6, kT, kX⟩ := ok
  refine V_iload_n (pc := 0) C (dk k_F_isPerson 0 rfl) rfl ?_
  refine V_iflt (pc := 1) C (dk k_F_isPerson 1 rfl) 19 rfl (by first | exact hR _ _ | with_reducible assumption | exact ⟨by omega, by omega⟩) (fun h1 => ?_) (fun h1 => ?_)
  · skip
    refine V_iconst (pc := 19) C (dk k_F_isPerson 9 rfl) rfl ?_
    refine V_zret (pc := 20) C (by first | exact Or.inl rfl | exact Or.inr rfl | (split <;> first | exact Or.inl rfl | exact Or.inr rfl) | omega) E (dk k_F_isPerson 10 rfl) ?_
    first | exact ⟨rfl, rfl⟩ | (refine ⟨?_, rfl⟩; first | (rw [if_pos (by omega)]; done) | (rw [if_neg (by omega)]; done))
  · skip
    refine V_iload_n (pc := 4) C (dk k_F_isPerson 2 rfl) rfl ?_
    refine V_aload_n (pc := 5) C (dk k_F_isPerson 3 rfl) rfl ?_
    refine V_getm (pc := 6) (o2 := pl) C (dk k_F_isPerson 4 rfl) fl_F_26 kq_0 (by decide) rfl hm_pl ?_
    refine V_geti (pc := 9) (ji := 0) C (dk k_F_isPerson 5 rfl) fl_F_106 hpl (by decide) rfl rfl ?_
    refine V_icmpge (pc := 12) C (dk k_F_isPerson 6 rfl) 19 rfl (by first | exact hR _ _ | with_reducible assumption | exact ⟨by omega, by omega⟩) (by first | exact hR _ _ | with_reducible assumption | exact ⟨by omega, by omega⟩) (fun h2 => ?_) (fun h2 => ?_)
    · skip
      refine V_iconst (pc := 19) C (dk k_F_isPerson 9 rfl) rfl ?_
      refine V_zret (pc := 20) C (by first | exact Or.inl rfl | exact Or.inr rfl | (split <;> first | exact Or.inl rfl | exact Or.inr rfl) | omega) E (dk k_F_isPerson 10 rfl) ?_
      first | exact ⟨rfl, rfl⟩ | (refine ⟨?_, rfl⟩; first | (rw [if_pos (by omega)]; done) | (rw [if_neg (by omega)]; done))
    · skip
      refine V_iconst (pc := 15) C (dk k_F_isPerson 7 rfl) rfl ?_
      refine V_goto (pc := 16) C (dk k_F_isPerson 8 rfl) 20 rfl ?_
      refine V_zret (pc := 20) C (by first | exact Or.inl rfl | exact Or.inr rfl | (split <;> first | exact Or.inl rfl | exact Or.inr rfl) | omega) E (dk k_F_isPerson 10 rfl) ?_
      first | exact ⟨rfl, rfl⟩ | (refine ⟨?_, rfl⟩; first | (rw [if_pos (by omega)]; done) | (rw [if_neg (by omega)]; done))

def i_F_priceBehind : List (Nat × (Instr × Nat)) := [(0, (.aload_n 0, 1)), (1, (.getfield 36, 3)), (4, (.getfield 137, 3)), (7, (.iload_n 1, 1)), (8, (.invokestatic 117, 3)), (11, (.aload_n 0, 1)), (12, (.getfield 26, 3)), (15, (.aload_n 0, 1)), (16, (.getfield 36, 3)), (19, (.getfield 149, 3)), (22, (.iload_n 2, 1)), (23, (.iadd, 1)), (24, (.invokevirtual 152, 3)), (27, (.imul, 1)), (28, (.ireturn, 1))]
theorem k_F_priceBehind : i_F_priceBehind.all (fun q => decide (decode b_F_priceBehind q.1 = .ok q.2)) = true := by decide +kernel

set_option maxHeartbeats 1000000 in
set_option maxRecDepth 20000 in
theorem c_F_priceBehind (l : Launch) (G : GE) (σ : Wd) (pl : Nat) (π : PL) (x : ST) (j t n : Int) (hF : FR σ pl π) (ok : PLok π) (hx : StR σ 19 π x) (xk : STok π x j) (hj : j ≤ 200) (ht0 : 0 ≤ t) (ht1 : t < pN π) (hn0 : 0 ≤ n) (hn1 : n ≤ 100) : Ct l G y_F_priceBehind b_F_priceBehind 3 (some (.int)) 2 42 [vR 0, vI t, vI n] σ (Dt (some (vI (sN x t * rt π (sD x + n)))) σ) := by
  refine Ct.of cm_F_priceBehind (Nat.le_of_ble_eq_true rfl) ?_
  intro X hXl hXG hXN hRm C E
  subst hXl; subst hXG
  show V X 0 [some (vR 0), some (vI t), some (vI n)] [] σ
  refine V_R (fun hR => ?_)
  obtain ⟨hm_pl, hπ⟩ := hF
  have hπ0 := hπ
  obtain ⟨hpl, e0, e2, e7, e10, eT, eX⟩ := hπ
  obtain ⟨hpl_1, hpl_2, hpl_3, hpl_4, hpl_5, hpl_6⟩ := kd_P hpl
  have ⟨k1, k2, k3, k4, k5, k6, kT, kX⟩ := ok
  have hx0 := hx
  obtain ⟨hs, f0, f1, fQ, fT⟩ := hx
  obtain ⟨hs_1, hs_2, hs_3, hs_4⟩ := kd_S hs
  have ⟨x1, x2, x3, x4, xQ, xT⟩ := xk
  refine V_aload_n (pc := 0) C (dk k_F_priceBehind 0 rfl) rfl ?_
  refine V_getr (pc := 1) (o2 := 19) C (dk k_F_priceBehind 1 rfl) fl_F_36 kq_0 (by decide) rfl (by decide) rfl ?_
  refine V_getr (pc := 4) (o2 := 22) C (dk k_F_priceBehind 2 rfl) fl_F_137 kq_19 (by decide) rfl (by decide) rfl ?_
  refine V_iload_n (pc := 7) C (dk k_F_priceBehind 3 rfl) rfl ?_
  refine V_callS (pc := 8) C (dk k_F_priceBehind 4 rfl) lk_F_117 cm_F_at sm_F_at (c_at _ _ _ (22) 8 t kq_22 (by decide) ht0 (by omega)) rfl rfl (Nat.le_of_ble_eq_true rfl) (Rm.mono hRm (by decide) (by decide)) ?_
  refine V_aload_n (pc := 11) C (dk k_F_priceBehind 5 rfl) rfl ?_
  refine V_getm (pc := 12) (o2 := pl) C (dk k_F_priceBehind 6 rfl) fl_F_26 kq_0 (by decide) rfl hm_pl ?_
  refine V_aload_n (pc := 15) C (dk k_F_priceBehind 7 rfl) rfl ?_
  refine V_getr (pc := 16) (o2 := 19) C (dk k_F_priceBehind 8 rfl) fl_F_36 kq_0 (by decide) rfl (by decide) rfl ?_
  refine V_geti (pc := 19) (ji := 0) C (dk k_F_priceBehind 9 rfl) fl_F_149 kq_19 (by decide) rfl rfl ?_
  refine V_iload_n (pc := 22) C (dk k_F_priceBehind 10 rfl) rfl ?_
  refine V_iadd (pc := 23) C (dk k_F_priceBehind 11 rfl) ?_
  rw [f0]
  refine V_callV (pc := 24) C (dk k_F_priceBehind 12 rfl) lk_F_152 cm_P_rate vm_P_rate (c_P_rate _ _ _ pl π (sD x + n) hπ0 ok ⟨by omega, by omega⟩ (by omega)) hpl rfl rfl rfl (Nat.le_of_ble_eq_true rfl) (Rm.mono hRm (by decide) (by decide)) ?_
  refine V_imul (pc := 27) C (dk k_F_priceBehind 13 rfl) ?_
  refine V_iret (pc := 28) C E (dk k_F_priceBehind 14 rfl) ?_
  exact ⟨by rw [(fT t ht0 ht1).1], rfl⟩

def i_F_nearInCellar : List (Nat × (Instr × Nat)) := [(0, (.aload_n 0, 1)), (1, (.getfield 36, 3)), (4, (.getfield 137, 3)), (7, (.iload_n 1, 1)), (8, (.invokestatic 117, 3)), (11, (.istore 4, 2)), (13, (.iconst 0, 1)), (14, (.istore 5, 2)), (16, (.iload 5, 2)), (18, (.iload_n 3, 1)), (19, (.if_icmp .ge 27, 3)), (22, (.iload_n 2, 1)), (23, (.iload 4, 2)), (25, (.aload_n 0, 1)), (26, (.getfield 36, 3)), (29, (.getfield 149, 3)), (32, (.iload 5, 2)), (34, (.iadd, 1)), (35, (.invokestatic 266, 3)), (38, (.istore 4, 2)), (40, (.iinc 5 1, 3)), (43, (.goto (-27), 3)), (46, (.iload 4, 2)), (48, (.ireturn, 1))]
theorem k_F_nearInCellar : i_F_nearInCellar.all (fun q => decide (decode b_F_nearInCellar q.1 = .ok q.2)) = true := by decide +kernel

set_option maxHeartbeats 1000000 in
set_option maxRecDepth 20000 in
theorem c_F_nearInCellar (l : Launch) (G : GE) (σ : Wd) (pl : Nat) (π : PL) (x : ST) (j t k n : Int) (hF : FR σ pl π) (ok : PLok π) (hx : StR σ 19 π x) (xk : STok π x j) (hj : j ≤ 200) (ht0 : 0 ≤ t) (ht1 : t < pN π) (hk : inR k) (hn0 : 0 ≤ n) (hn1 : n ≤ 60) : Ct l G y_F_nearInCellar b_F_nearInCellar 6 (some (.int)) 2 48 [vR 0, vI t, vI k, vI n] σ (Dt (some (vI (cel k (sN x t) (sD x) n.toNat))) σ) := by
  refine Ct.of cm_F_nearInCellar (Nat.le_of_ble_eq_true rfl) ?_
  intro X hXl hXG hXN hRm C E
  subst hXl; subst hXG
  have ⟨hk_1, hk_2⟩ := hk
  show V X 0 [some (vR 0), some (vI t), some (vI k), some (vI n), none, none] [] σ
  refine V_R (fun hR => ?_)
  obtain ⟨hm_pl, hπ⟩ := hF
  have hπ0 := hπ
  obtain ⟨hpl, e0, e2, e7, e10, eT, eX⟩ := hπ
  obtain ⟨hpl_1, hpl_2, hpl_3, hpl_4, hpl_5, hpl_6⟩ := kd_P hpl
  have ⟨k1, k2, k3, k4, k5, k6, kT, kX⟩ := ok
  have hx0 := hx
  obtain ⟨hs, f0, f1, fQ, fT⟩ := hx
  obtain ⟨hs_1, hs_2, hs_3, hs_4⟩ := kd_S hs
  have ⟨x1, x2, x3, x4, xQ, xT⟩ := xk
  obtain ⟨fN, fP⟩ := fT t ht0 ht1
  obtain ⟨xN0, xN1, xP0, xP1, xPN⟩ := xT t ht0 ht1
  refine V_aload_n (pc := 0) C (dk k_F_nearInCellar 0 rfl) rfl ?_
  refine V_getr (pc := 1) (o2 := 19) C (dk k_F_nearInCellar 1 rfl) fl_F_36 kq_0 (by decide) rfl (by decide) rfl ?_
  refine V_getr (pc := 4) (o2 := 22) C (dk k_F_nearInCellar 2 rfl) fl_F_137 kq_19 (by decide) rfl (by decide) rfl ?_
  refine V_iload_n (pc := 7) C (dk k_F_nearInCellar 3 rfl) rfl ?_
  refine V_callS (pc := 8) C (dk k_F_nearInCellar 4 rfl) lk_F_117 cm_F_at sm_F_at (c_at _ _ _ (22) 8 t kq_22 (by decide) ht0 (by omega)) rfl rfl (Nat.le_of_ble_eq_true rfl) (Rm.mono hRm (by decide) (by decide)) ?_
  refine V_istore (pc := 11) C (dk k_F_nearInCellar 5 rfl) (by rw [hXN]; decide) ?_
  dsimp only [lst, lstL, lz, kill, Fin.val, Nat.reduceAdd]
  rw [fN]
  refine V_iconst (pc := 13) C (dk k_F_nearInCellar 6 rfl) rfl ?_
  refine V_istore (pc := 14) C (dk k_F_nearInCellar 7 rfl) (by rw [hXN]; decide) ?_
  dsimp only [lst, lstL, lz, kill, Fin.val, Nat.reduceAdd]
  refine V_eq (V_loop (fun i : Nat => (i : Int) ≤ n) (fun i => [some (vR 0), some (vI t), some (vI k), some (vI n), some (vI (cel k (sN x t) (sD x) i)), some (vI (i : Int))]) (fun _ => σ) (fun i => n.toNat - i) (fun i hi ih => ?_) 0 (by omega)) rfl rfl rfl
  have ⟨cb0, cb1⟩ := cel_b (k := k) (d := sD x) xN0 xN1 i
  refine V_iload (pc := 16) C (dk k_F_nearInCellar 8 rfl) rfl ?_
  refine V_iload_n (pc := 18) C (dk k_F_nearInCellar 9 rfl) rfl ?_
  refine V_icmpge (pc := 19) C (dk k_F_nearInCellar 10 rfl) 46 rfl (by first | exact hR _ _ | with_reducible assumption | exact ⟨by omega, by omega⟩) (by first | exact hR _ _ | with_reducible assumption | exact ⟨by omega, by omega⟩) (fun h1 => ?_) (fun h1 => ?_)
  · skip
    refine V_iload (pc := 46) C (dk k_F_nearInCellar 22 rfl) rfl ?_
    refine V_iret (pc := 48) C E (dk k_F_nearInCellar 23 rfl) ?_
    obtain rfl : n = i := by omega
    exact ⟨by rw [Int.toNat_natCast], rfl⟩
  · skip
    refine V_iload_n (pc := 22) C (dk k_F_nearInCellar 11 rfl) rfl ?_
    refine V_iload (pc := 23) C (dk k_F_nearInCellar 12 rfl) rfl ?_
    refine V_aload_n (pc := 25) C (dk k_F_nearInCellar 13 rfl) rfl ?_
    refine V_getr (pc := 26) (o2 := 19) C (dk k_F_nearInCellar 14 rfl) fl_F_36 kq_0 (by decide) rfl (by decide) rfl ?_
    refine V_geti (pc := 29) (ji := 0) C (dk k_F_nearInCellar 15 rfl) fl_F_149 kq_19 (by decide) rfl rfl ?_
    refine V_iload (pc := 32) C (dk k_F_nearInCellar 16 rfl) rfl ?_
    refine V_iadd (pc := 34) C (dk k_F_nearInCellar 17 rfl) ?_
    rw [f0]
    refine V_callS (pc := 35) C (dk k_F_nearInCellar 18 rfl) lk_F_266 cm_F_nearNextDay sm_F_nearNextDay (c_F_nearNextDay _ _ _ k (cel k (sN x t) (sD x) i) (sD x + i) hk ⟨by omega, by omega⟩ ⟨by omega, by omega⟩ (by omega) (by omega)) rfl rfl (Nat.le_of_ble_eq_true rfl) (Rm.mono hRm (by decide) (by decide)) ?_
    refine V_istore (pc := 38) C (dk k_F_nearInCellar 19 rfl) (by rw [hXN]; decide) ?_
    dsimp only [lst, lstL, lz, kill, Fin.val, Nat.reduceAdd]
    refine V_iinc (pc := 40) C (dk k_F_nearInCellar 20 rfl) (by rw [hXN]; decide) rfl ?_
    dsimp only [lst, lstL, lz, kill, Fin.val, Nat.reduceAdd]
    refine V_goto (pc := 43) C (dk k_F_nearInCellar 21 rfl) 16 rfl ?_
    exact ih (i + 1) (by omega) (by omega)

def i_F_fitsLooks : List (Nat × (Instr × Nat)) := [(0, (.iconst 0, 1)), (1, (.istore_n 3, 1)), (2, (.iload_n 3, 1)), (3, (.aload_n 0, 1)), (4, (.getfield 56, 3)), (7, (.getfield 235, 3)), (10, (.if_icmp .ge 57, 3)), (13, (.aload_n 0, 1)), (14, (.getfield 56, 3)), (17, (.getfield 269, 3)), (20, (.iload_n 3, 1)), (21, (.invokestatic 117, 3)), (24, (.iload_n 1, 1)), (25, (.if_icmp .ne 36, 3)), (28, (.aload_n 0, 1)), (29, (.iload_n 1, 1)), (30, (.iload_n 2, 1)), (31, (.aload_n 0, 1)), (32, (.getfield 56, 3)), (35, (.getfield 272, 3)), (38, (.iload_n 3, 1)), (39, (.invokestatic 117, 3)), (42, (.invokevirtual 185, 3)), (45, (.aload_n 0, 1)), (46, (.getfield 56, 3)), (49, (.getfield 275, 3)), (52, (.iload_n 3, 1)), (53, (.invokestatic 117, 3)), (56, (.if_icmp .eq 5, 3)), (59, (.iconst 0, 1)), (60, (.ireturn, 1)), (61, (.iinc 3 1, 3)), (64, (.goto (-62), 3)), (67, (.iconst 1, 1)), (68, (.ireturn, 1))]
theorem k_F_fitsLooks : i_F_fitsLooks.all (fun q => decide (decode b_F_fitsLooks q.1 = .ok q.2)) = true := by decide +kernel

set_option maxHeartbeats 1000000 in
set_option maxRecDepth 20000 in
theorem c_F_fitsLooks (l : Launch) (G : GE) (σ : Wd) (pl : Nat) (π : PL) (x : ST) (j t k : Int) (lk : List (Int × (Int × Int))) (hF : FR σ pl π) (ok : PLok π) (hx : StR σ 19 π x) (xk : STok π x j) (hj : j ≤ 200) (hl : LkR σ lk) (ht0 : 0 ≤ t) (ht1 : t < pN π) (hk : inR k) : Ct l G y_F_fitsLooks b_F_fitsLooks 4 (some (.boolean)) 3 73 [vR 0, vI t, vI k] σ (Dt (some (vI (if lk.all (lkq t k (sN x t) (sD x)) = true then 1 else 0))) σ) := by
  refine Ct.of cm_F_fitsLooks (Nat.le_of_ble_eq_true rfl) ?_
  intro X hXl hXG hXN hRm C E
  subst hXl; subst hXG
  have ⟨hk_1, hk_2⟩ := hk
  show V X 0 [some (vR 0), some (vI t), some (vI k), none] [] σ
  refine V_R (fun hR => ?_)
  have hF0 := hF
  obtain ⟨hm_pl, hπ⟩ := hF
  have hπ0 := hπ
  obtain ⟨hpl, e0, e2, e7, e10, eT, eX⟩ := hπ
  obtain ⟨hpl_1, hpl_2, hpl_3, hpl_4, hpl_5, hpl_6⟩ := kd_P hpl
  have ⟨k1, k2, k3, k4, k5, k6, kT, kX⟩ := ok
  have hx0 := hx
  obtain ⟨hs, f0, f1, fQ, fT⟩ := hx
  obtain ⟨hs_1, hs_2, hs_3, hs_4⟩ := kd_S hs
  have ⟨x1, x2, x3, x4, xQ, xT⟩ := xk
  obtain ⟨l1, l2, l3⟩ := hl
  obtain ⟨xN0, xN1, xP0, xP1, xPN⟩ := xT t ht0 ht1
  refine V_iconst (pc := 0) C (dk k_F_fitsLooks 0 rfl) rfl ?_
  refine V_istore_n (pc := 1) C (dk k_F_fitsLooks 1 rfl) (by rw [hXN]; decide) ?_
  dsimp only [lst, lstL, lz, kill, Fin.val, Nat.reduceAdd]
  refine V_eq (V_loop (fun i : Nat => i ≤ lk.length ∧ (lk.take i).all (lkq t k (sN x t) (sD x)) = true) (fun i => [some (vR 0), some (vI t), some (vI k), some (vI (i : Int))]) (fun _ => σ) (fun i => lk.length - i) (fun i hi ih => ?_) 0 ⟨by omega, rfl⟩) rfl rfl rfl
  obtain ⟨hi, hall⟩ := hi
  refine V_iload_n (pc := 2) C (dk k_F_fitsLooks 2 rfl) rfl ?_
  refine V_aload_n (pc := 3) C (dk k_F_fitsLooks 3 rfl) rfl ?_
  refine V_getr (pc := 4) (o2 := 113) C (dk k_F_fitsLooks 4 rfl) fl_F_56 kq_0 (by decide) rfl (by decide) rfl ?_
  refine V_geti (pc := 7) (ji := 3) C (dk k_F_fitsLooks 5 rfl) fl_F_235 kq_113 (by decide) rfl rfl ?_
  refine V_icmpge (pc := 10) C (dk k_F_fitsLooks 6 rfl) 67 rfl (by first | exact hR _ _ | with_reducible assumption | exact ⟨by omega, by omega⟩) (by first | exact hR _ _ | with_reducible assumption | exact ⟨by omega, by omega⟩) (fun h1 => ?_) (fun h1 => ?_)
  · skip
    refine V_iconst (pc := 67) C (dk k_F_fitsLooks 33 rfl) rfl ?_
    refine V_zret (pc := 68) C (by first | exact Or.inl rfl | exact Or.inr rfl | (split <;> first | exact Or.inl rfl | exact Or.inr rfl) | omega) E (dk k_F_fitsLooks 34 rfl) ?_
    obtain rfl : i = lk.length := by omega
    rw [List.take_length] at hall
    exact ⟨by rw [if_pos hall], rfl⟩
  · skip
    obtain ⟨q, hq⟩ : ∃ q, lk[i]? = some q := ⟨_, List.getElem?_eq_getElem (show i < lk.length by omega)⟩
    obtain ⟨q1, q2, q3, q4, q5, q6, q7⟩ := l3 i q hq
    have ⟨cb0, cb1⟩ := cel_b (k := k) (d := sD x) xN0 xN1 q.2.1.toNat
    refine V_aload_n (pc := 13) C (dk k_F_fitsLooks 7 rfl) rfl ?_
    refine V_getr (pc := 14) (o2 := 113) C (dk k_F_fitsLooks 8 rfl) fl_F_56 kq_0 (by decide) rfl (by decide) rfl ?_
    refine V_getr (pc := 17) (o2 := 114) C (dk k_F_fitsLooks 9 rfl) fl_F_269 kq_113 (by decide) rfl (by decide) rfl ?_
    refine V_iload_n (pc := 20) C (dk k_F_fitsLooks 10 rfl) rfl ?_
    refine V_callS (pc := 21) C (dk k_F_fitsLooks 11 rfl) lk_F_117 cm_F_at sm_F_at (c_at _ _ _ (114) 6 i kq_114 (by decide) (by omega) (by omega)) rfl rfl (Nat.le_of_ble_eq_true rfl) (Rm.mono hRm (by decide) (by decide)) ?_
    refine V_iload_n (pc := 24) C (dk k_F_fitsLooks 12 rfl) rfl ?_
    refine V_icmpne (pc := 25) C (dk k_F_fitsLooks 13 rfl) 61 rfl (by first | exact hR _ _ | with_reducible assumption | exact ⟨by omega, by omega⟩) (by first | exact hR _ _ | with_reducible assumption | exact ⟨by omega, by omega⟩) (fun h2 => ?_) (fun h2 => ?_)
    · skip
      refine V_iinc (pc := 61) C (dk k_F_fitsLooks 31 rfl) (by rw [hXN]; decide) rfl ?_
      dsimp only [lst, lstL, lz, kill, Fin.val, Nat.reduceAdd]
      refine V_goto (pc := 64) C (dk k_F_fitsLooks 32 rfl) 2 rfl ?_
      refine ih (i + 1) ⟨by omega, ?_⟩ (by omega)
      rw [List.take_succ, hq, List.all_append, hall]
      simp only [Option.toList, List.all_cons, List.all_nil, Bool.and_true, Bool.true_and]
      unfold lkq
      first | (rw [decide_eq_false (by omega)]; rfl) | (rw [decide_eq_true (show cel k (sN x t) (sD x) q.2.1.toNat = q.2.2 by omega)]; simp)
    · skip
      refine V_aload_n (pc := 28) C (dk k_F_fitsLooks 14 rfl) rfl ?_
      refine V_iload_n (pc := 29) C (dk k_F_fitsLooks 15 rfl) rfl ?_
      refine V_iload_n (pc := 30) C (dk k_F_fitsLooks 16 rfl) rfl ?_
      refine V_aload_n (pc := 31) C (dk k_F_fitsLooks 17 rfl) rfl ?_
      refine V_getr (pc := 32) (o2 := 113) C (dk k_F_fitsLooks 18 rfl) fl_F_56 kq_0 (by decide) rfl (by decide) rfl ?_
      refine V_getr (pc := 35) (o2 := 115) C (dk k_F_fitsLooks 19 rfl) fl_F_272 kq_113 (by decide) rfl (by decide) rfl ?_
      refine V_iload_n (pc := 38) C (dk k_F_fitsLooks 20 rfl) rfl ?_
      refine V_callS (pc := 39) C (dk k_F_fitsLooks 21 rfl) lk_F_117 cm_F_at sm_F_at (c_at _ _ _ (115) 6 i kq_115 (by decide) (by omega) (by omega)) rfl rfl (Nat.le_of_ble_eq_true rfl) (Rm.mono hRm (by decide) (by decide)) ?_
      rw [q2]
      refine V_callV (pc := 42) C (dk k_F_fitsLooks 22 rfl) lk_F_185 cm_F_nearInCellar vm_F_nearInCellar (c_F_nearInCellar _ _ _ pl π x j t k q.2.1 hF0 ok hx0 xk hj ht0 ht1 hk q4 (by omega)) kq_0 rfl rfl rfl (Nat.le_of_ble_eq_true rfl) (Rm.mono hRm (by decide) (by decide)) ?_
      refine V_aload_n (pc := 45) C (dk k_F_fitsLooks 23 rfl) rfl ?_
      refine V_getr (pc := 46) (o2 := 113) C (dk k_F_fitsLooks 24 rfl) fl_F_56 kq_0 (by decide) rfl (by decide) rfl ?_
      refine V_getr (pc := 49) (o2 := 116) C (dk k_F_fitsLooks 25 rfl) fl_F_275 kq_113 (by decide) rfl (by decide) rfl ?_
      refine V_iload_n (pc := 52) C (dk k_F_fitsLooks 26 rfl) rfl ?_
      refine V_callS (pc := 53) C (dk k_F_fitsLooks 27 rfl) lk_F_117 cm_F_at sm_F_at (c_at _ _ _ (116) 6 i kq_116 (by decide) (by omega) (by omega)) rfl rfl (Nat.le_of_ble_eq_true rfl) (Rm.mono hRm (by decide) (by decide)) ?_
      refine V_icmpeq (pc := 56) C (dk k_F_fitsLooks 28 rfl) 61 rfl (by first | exact hR _ _ | with_reducible assumption | exact ⟨by omega, by omega⟩) (by first | exact hR _ _ | with_reducible assumption | exact ⟨by omega, by omega⟩) (fun h3 => ?_) (fun h3 => ?_)
      · skip
        refine V_iinc (pc := 61) C (dk k_F_fitsLooks 31 rfl) (by rw [hXN]; decide) rfl ?_
        dsimp only [lst, lstL, lz, kill, Fin.val, Nat.reduceAdd]
        refine V_goto (pc := 64) C (dk k_F_fitsLooks 32 rfl) 2 rfl ?_
        refine ih (i + 1) ⟨by omega, ?_⟩ (by omega)
        rw [List.take_succ, hq, List.all_append, hall]
        simp only [Option.toList, List.all_cons, List.all_nil, Bool.and_true, Bool.true_and]
        unfold lkq
        first | (rw [decide_eq_false (by omega)]; rfl) | (rw [decide_eq_true (show cel k (sN x t) (sD x) q.2.1.toNat = q.2.2 by omega)]; simp)
      · skip
        refine V_iconst (pc := 59) C (dk k_F_fitsLooks 29 rfl) rfl ?_
        refine V_zret (pc := 60) C (by first | exact Or.inl rfl | exact Or.inr rfl | (split <;> first | exact Or.inl rfl | exact Or.inr rfl) | omega) E (dk k_F_fitsLooks 30 rfl) ?_
        refine ⟨?_, rfl⟩
        rw [if_neg]
        intro hz
        have hm := List.all_eq_true.mp hz q (List.mem_of_getElem? hq)
        unfold lkq at hm
        rw [decide_eq_true (show q.1 = t by omega)] at hm
        simp at hm
        omega
