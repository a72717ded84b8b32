/-- the text -/
def TxR (σ : Wd) (tx : List Int) : Prop := σ 1 1 = tx.length ∧ tx.length ≤ 200 ∧ ∀ (k : Nat) (c : Int), tx[k]? = some c → σ 2 k = c ∧ 32 ≤ c ∧ c ≤ 126
/-- the class's shop stands for π, x, what can be undone, what is kept, what is seen, the text -/
def CR (σ : Wd) (pl sp : Nat) (π : PL) (x : ST) (us ks : List ST) (lk : List (Int × (Int × Int))) (tx : List Int) : Prop :=
  FR σ pl π ∧ (σ 0 3).toNat = sp ∧ kd sp = 5 ∧ sp ≠ pl ∧ StR σ 19 π x ∧ MmR σ 29 π us ∧ MmR σ 71 π ks ∧ LkR σ lk ∧ TxR σ tx
/-- rows that are worked in, with no meaning between calls -/
def scr (sp k : Nat) : Prop := k = 3 ∨ k = 4 ∨ (24 ≤ k ∧ k < 29) ∨ 117 ≤ k ∨ (sp ≤ k ∧ k < sp + 7)
theorem kd5 {p : Nat} (h : kd p = 5) : p = 5 ∨ p = 12 := by
  have key : ∀ a : Fin NO, kd a.val = 5 → a.val = 5 ∨ a.val = 12 := by decide +kernel
  exact key ⟨p, kd_lt h (by decide)⟩ h
theorem MmR.fr {σ σ' : Wd} {m : Nat} {π : PL} {l : List ST} (h : MmR σ m π l) (hf : ∀ k, m ≤ k → k < m + 42 → σ' k = σ k) : MmR σ' m π l := by
  obtain ⟨h0, h1, h2, h3, h4, h5⟩ := h
  have e := hf m (by omega) (by omega)
  refine ⟨h0, by rw [e]; exact h1, by rw [e]; exact h2, by rw [e]; exact h3, h4, fun k y hk => ?_⟩
  rw [e]
  exact (h5 k y hk).fr (fun j a b => hf j (by omega) (by omega))
theorem LkR.fr {σ σ' : Wd} {l : List (Int × (Int × Int))} (h : LkR σ l) (hf : ∀ k, 113 ≤ k → k < 117 → σ' k = σ k) : LkR σ' l := by
  obtain ⟨h1, h2, h3⟩ := h
  refine ⟨by rw [hf 113 (by omega) (by omega)]; exact h1, h2, fun k q hk => ?_⟩
  rw [hf 114 (by omega) (by omega), hf 115 (by omega) (by omega), hf 116 (by omega) (by omega)]
  exact h3 k q hk
theorem TxR.fr {σ σ' : Wd} {tx : List Int} (h : TxR σ tx) (h1 : σ' 1 = σ 1) (h2 : σ' 2 = σ 2) : TxR σ' tx := by
  obtain ⟨a, b, c⟩ := h
  exact ⟨by rw [h1]; exact a, b, fun k z hk => by rw [h2]; exact c k z hk⟩
theorem FR.fr {σ σ' : Wd} {pl : Nat} {π : PL} (h : FR σ pl π) (h0 : σ' 0 = σ 0) (hf : ∀ k, pl ≤ k → k < pl + 7 → σ' k = σ k) : FR σ' pl π :=
  ⟨by rw [h0]; exact h.1, h.2.fr hf⟩
theorem CR.fr {σ σ' : Wd} {pl sp : Nat} {π : PL} {x : ST} {us ks : List ST} {lk : List (Int × (Int × Int))} {tx : List Int} (h : CR σ pl sp π x us ks lk tx) (hf : ∀ k, ¬ scr sp k → σ' k = σ k) : CR σ' pl sp π x us ks lk tx := by
  obtain ⟨h1, h2, h3, h4, h5, h6, h7, h8, h9⟩ := h
  have a := kd5 h1.2.1
  have b := kd5 h3
  have f : ∀ k, ¬ (k = 3 ∨ k = 4 ∨ (24 ≤ k ∧ k < 29) ∨ 117 ≤ k ∨ (sp ≤ k ∧ k < sp + 7)) → σ' k = σ k := hf
  refine ⟨h1.fr (f 0 (by omega)) (fun k c d => f k (by omega)), by rw [f 0 (by omega)]; exact h2, h3, h4, h5.fr (fun k c d => f k (by omega)), h6.fr (fun k c d => f k (by omega)), h7.fr (fun k c d => f k (by omega)), h8.fr (fun k c d => f k (by omega)), h9.fr (f 1 (by omega)) (f 2 (by omega))⟩
/-- all that is known of the numbers, behind j calls -/
def VK (π : PL) (x : ST) (us ks : List ST) (j : Int) : Prop := PLok π ∧ STok π x j ∧ (∀ y ∈ us, STok π y j) ∧ (∀ y ∈ ks, STok π y j) ∧ ks.length ≤ 2
/-- the class changes its own rows alone -/
def Fc (σ σ' : Wd) : Prop := ∀ k, 128 ≤ k → σ' k = σ k
theorem Fc.rf (σ : Wd) : Fc σ σ := fun _ _ => rfl
abbrev isT (π : PL) (t : Int) : Prop := 0 ≤ t ∧ t < pN π
abbrev isP (π : PL) (p : Int) : Prop := 0 ≤ p ∧ p < pP π
def o_person (π : PL) (x : ST) (p k : Int) : Int := if isP π p ∧ 0 ≤ k ∧ k ≤ 2 then (if k = 0 then sG x p else if k = 1 then sR x p else bs (fun t => decide (pO π t = p ∧ sP x t = 0)) (pN π)) else -1
def o_thing (π : PL) (x : ST) (t k : Int) : Int := if isT π t ∧ 0 ≤ k ∧ k ≤ 5 then (if k = 0 then pO π t else if k = 1 then pK π t else if k = 2 then sN x t else if k = 3 then pU π t else if k = 4 then sP x t else prc π x t) else -1
def o_pays (π : PL) (x : ST) (n : Int) : Int := if 0 ≤ n ∧ n ≤ 99 then rt π (sD x + n) else -1
def o_sell (π : PL) (x : ST) (us : List ST) (t : Int) : Int × (ST × List ST) := if isT π t then (if (sP x t = 0 ∧ pL π ≤ sN x t) ∧ prc π x t ≤ sM x then (prc π x t, (sellX π x t, (x :: us).take 8)) else (-2, (x, us))) else (-1, (x, us))
def o_buy (π : PL) (x : ST) (us : List ST) (t : Int) : Int × (ST × List ST) := if isT π t then (if sP x t = 1 ∧ prc π x t ≤ sG x (pO π t) then (prc π x t, (buyX π x t, (x :: us).take 8)) else (-2, (x, us))) else (-1, (x, us))
def daysX (π : PL) (x : ST) : Nat → ST
  | 0 => x
  | n + 1 => dayX π (daysX π x n)
def o_pass (π : PL) (x : ST) (us : List ST) (n : Int) : Int × (ST × List ST) := if 1 ≤ n ∧ n ≤ 24 then (sD (daysX π x n.toNat), (daysX π x n.toNat, (x :: us).take 8)) else (-1, (x, us))
def o_undo (x : ST) (us : List ST) : Int × (ST × List ST) := match us with
  | [] => (-2, (x, []))
  | y :: r => ((r.length : Int), (y, r))
def o_keep (x : ST) (ks : List ST) : Int × List ST := if 2 ≤ ks.length then (-3, ks) else ((ks.length : Int) + 1, x :: ks)
def o_back (x : ST) (us ks : List ST) : Int × (ST × (List ST × List ST)) := match ks with
  | [] => (-2, (x, (us, [])))
  | y :: r => ((r.length : Int), (y, ([], r)))
def o_behind (π : PL) (x : ST) (n t : Int) : Int := if (0 ≤ n ∧ n ≤ 40) ∧ isT π t then (if sP x t = 1 then cel (pK π t) (sN x t) (sD x) n.toNat else sN x t) else -1
def cellar (π : PL) (x : ST) : Int := sm (fun t => if sP x t = 1 then sN x t else 0) (pN π)
/-- the first day from i on, of so many to look at, on which it is heard -/
def hrd (π : PL) (x : ST) (h : Int) : Nat → Nat → Int
  | 0, _ => -4
  | f + 1, i => if h ≤ cellar π (daysX π x i) then i else hrd π x h f (i + 1)
def o_heard (π : PL) (x : ST) (h : Int) : Int := if 1 ≤ h ∧ h ≤ 999 then hrd π x h 61 0 else -1
def o_write (tx : List Int) (c : Int) : Int × List Int := if 32 ≤ c ∧ c ≤ 126 then (if tx.length < 200 then ((tx.length : Int) + 1, tx ++ [c]) else (-3, tx)) else (-1, tx)
def o_see (π : PL) (lk : List (Int × (Int × Int))) (t n v : Int) : Int × List (Int × (Int × Int)) := if (isT π t ∧ 0 ≤ n ∧ n ≤ 20) ∧ 0 ≤ v ∧ v ≤ 99 then (if lk.length < 6 then ((lk.length : Int) + 1, lk ++ [(t, (n, v))]) else (-3, lk)) else (-1, lk)
def o_kinds (π : PL) (x : ST) (lk : List (Int × (Int × Int))) (t : Int) : Int := if isT π t then bs (fun k => lk.all (lkq t k (sN x t) (sD x))) 4 else -1
def o_count (π : PL) (x : ST) (us ks : List ST) (lk : List (Int × (Int × Int))) (tx : List Int) (k : Int) : Int :=
  if k = 0 then pP π else if k = 1 then pN π else if k = 2 then sM x else if k = 3 then pL π else if k = 4 then sD x
  else if k = 5 then sm (fun t => if sP x t = 1 then 1 else 0) (pN π) else if k = 6 then sm (fun t => if sP x t = 2 then 1 else 0) (pN π)
  else if k = 7 then cellar π x else if k = 8 then lk.length else if k = 9 then us.length else if k = 10 then ks.length else if k = 11 then tx.length else -1

theorem CR.mk2 {σ σ' : Wd} {pl sp : Nat} {π : PL} {x x' : ST} {us us' ks ks' : List ST} {lk lk' : List (Int × (Int × Int))} {tx tx' : List Int} (h : CR σ pl sp π x us ks lk tx) (h0 : ∀ k, (k = 0 ∨ (5 ≤ k ∧ k < 19)) → σ' k = σ k) (hx : StR σ' 19 π x') (hU : MmR σ' 29 π us') (hK : MmR σ' 71 π ks') (hl : LkR σ' lk') (hT : TxR σ' tx') : CR σ' pl sp π x' us' ks' lk' tx' := by
  obtain ⟨h1, h2, h3, h4, -⟩ := h
  have a := kd5 h1.2.1
  exact ⟨h1.fr (h0 0 (by omega)) (fun k c d => h0 k (by omega)), by rw [h0 0 (by omega)]; exact h2, h3, h4, hx, hU, hK, hl, hT⟩
theorem TxR.add {σ : Wd} {tx : List Int} {c : Int} (h : TxR σ tx) (h0 : 32 ≤ c) (h1 : c ≤ 126) (h2 : tx.length < 200) : TxR (up (up σ 2 (σ 1 1) c) 1 1 (σ 1 1 + 1)) (tx ++ [c]) := by
  obtain ⟨t1, t2, t3⟩ := h
  refine ⟨by rw [up_at, t1, List.length_append]; rfl, by rw [List.length_append, List.length_singleton]; omega, fun k z hk => ?_⟩
  rw [up_ne1 _ _ _ _ (by decide), t1]
  by_cases hl : k < tx.length
  · rw [List.getElem?_append_left hl] at hk
    rw [up_ne2 _ (by omega)]
    exact t3 k z hk
  · rw [List.getElem?_append_right (by omega)] at hk
    have hz : k - tx.length = 0 := by
      have := (List.getElem?_eq_some_iff.mp hk).1
      simp at this; omega
    rw [hz] at hk
    simp at hk
    subst hk
    rw [show (k : Int) = (tx.length : Int) by omega, up_at]
    exact ⟨rfl, h0, h1⟩
theorem LkR.add {σ : Wd} {lk : List (Int × (Int × Int))} {t n v : Int} (h : LkR σ lk) (hn0 : 0 ≤ n) (hn1 : n ≤ 20) (hv0 : 0 ≤ v) (hv1 : v ≤ 99) (h2 : lk.length < 6) : LkR (up (up (up (up σ 114 (σ 113 3) t) 115 (σ 113 3) n) 116 (σ 113 3) v) 113 3 (σ 113 3 + 1)) (lk ++ [(t, (n, v))]) := by
  obtain ⟨t1, t2, t3⟩ := h
  refine ⟨by rw [up_at, t1, List.length_append]; rfl, by rw [List.length_append, List.length_singleton]; omega, fun k z hk => ?_⟩
  by_cases hl : k < lk.length
  · rw [List.getElem?_append_left hl] at hk
    have := t3 k z hk
    simp (disch := omega) only [up_ne1, up_ne2]
    exact this
  · rw [List.getElem?_append_right (by omega)] at hk
    have hz : k - lk.length = 0 := by
      have := (List.getElem?_eq_some_iff.mp hk).1
      simp at this; omega
    rw [hz] at hk
    simp at hk
    subst hk
    have e : (k : Int) = σ 113 3 := by omega
    rw [e]
    simp (disch := omega) only [up_ne1, up_at]
    exact ⟨trivial, trivial, trivial, hn0, hn1, hv0, hv1⟩

def i_F_write : List (Nat × (Instr × Nat)) := [(0, (.iload_n 1, 1)), (1, (.bipush 32, 2)), (3, (.bipush 126, 2)), (5, (.invokestatic 98, 3)), (8, (.ifCond .ne 5, 3)), (11, (.iconst (-1), 1)), (12, (.ireturn, 1)), (13, (.aload_n 0, 1)), (14, (.getfield 10, 3)), (17, (.iload_n 1, 1)), (18, (.i2c, 1)), (19, (.invokevirtual 86, 3)), (22, (.ifCond .eq 13, 3)), (25, (.aload_n 0, 1)), (26, (.getfield 10, 3)), (29, (.getfield 94, 3)), (32, (.goto 5, 3)), (35, (.bipush (-3), 2)), (37, (.ireturn, 1))]
theorem k_F_write : i_F_write.all (fun q => decide (decode b_F_write q.1 = .ok q.2)) = true := by decide +kernel

set_option maxHeartbeats 1000000 in
set_option maxRecDepth 20000 in
theorem c_F_write (l : Launch) (G : GE) (σ : Wd) (pl sp : Nat) (π : PL) (x : ST) (us ks : List ST) (lk : List (Int × (Int × Int))) (tx : List Int) (j : Int) (hC : CR σ pl sp π x us ks lk tx) (hV : VK π x us ks j) (hj : j ≤ 100) (c : Int) (hc : inR c) : Ct l G y_F_write b_F_write 2 (some (.int)) 1 22 [vR 0, vI c] σ (Rt (some (vI (o_write tx c).1)) (fun σ' => CR σ' pl sp π x us ks lk (o_write tx c).2 ∧ Fc σ σ')) := by
  refine Ct.of cm_F_write (Nat.le_of_ble_eq_true rfl) ?_
  intro X hXl hXG hXN hRm C E
  subst hXl; subst hXG
  have ⟨hc_1, hc_2⟩ := hc
  show V X 0 [some (vR 0), some (vI c)] [] σ
  refine V_R (fun hR => ?_)
  obtain ⟨hF, hsp0, hsp, hne, hx, hU, hK, hl, hT⟩ := id hC
  obtain ⟨ok, xk, usk, ksk, ks2⟩ := id hV
  have hF0 := hF
  obtain ⟨hm_pl, hπ⟩ := hF
  have hπ0 := hπ
  obtain ⟨hpl, e0, e2, e7, e10, eT, eX⟩ := hπ
  obtain ⟨hpl_1, hpl_2, hpl_3, hpl_4, hpl_5, hpl_6⟩ := kd_P hpl
  have ⟨k1, k2, k3, k4, k5, k6, kT, kX⟩ := ok
  have hx0 := hx
  obtain ⟨hs, f0, f1, fQ, fT⟩ := hx
  simp only [Nat.reduceAdd] at fQ fT
  have ⟨x1, x2, x3, x4, xQ, xT⟩ := xk
  have p512 := kd5 hpl
  have s512 := kd5 hsp
  obtain ⟨t1, t2, t3⟩ := id hT
  refine V_iload_n (pc := 0) C (dk k_F_write 0 rfl) rfl ?_
  refine V_bipush (pc := 1) (n' := 32) C (dk k_F_write 1 rfl) rfl ?_
  refine V_bipush (pc := 3) (n' := 126) C (dk k_F_write 2 rfl) rfl ?_
  refine V_callS (pc := 5) C (dk k_F_write 3 rfl) lk_F_98 cm_F_within sm_F_within (c_F_within _ _ _ c 32 126 hc ⟨by decide, by decide⟩ ⟨by decide, by decide⟩) rfl rfl (Nat.le_of_ble_eq_true rfl) (Rm.mono hRm (by decide) (by decide)) ?_
  refine V_ifneB (pc := 8) C (dk k_F_write 4 rfl) 13 rfl (fun h1 => ?_) (fun h1 => ?_)
  · skip
    refine V_aload_n (pc := 13) C (dk k_F_write 7 rfl) rfl ?_
    refine V_getr (pc := 14) (o2 := 1) C (dk k_F_write 8 rfl) fl_F_10 kq_0 (by decide) rfl (by decide) rfl ?_
    refine V_iload_n (pc := 17) C (dk k_F_write 9 rfl) rfl ?_
    refine V_i2c (pc := 18) C (dk k_F_write 10 rfl) (by omega) (by omega) ?_
    refine V_callV (pc := 19) C (dk k_F_write 11 rfl) lk_F_86 cm_L_add vm_L_add (c_L_add _ _ _ c (by omega) (by omega) (by omega) (by omega)) kq_1 rfl rfl rfl (Nat.le_of_ble_eq_true rfl) (Rm.mono hRm (by decide) (by decide)) ?_
    refine V_ifeqB (pc := 22) C (dk k_F_write 12 rfl) 35 rfl (fun h2 => ?_) (fun h2 => ?_)
    · skip
      rw [if_neg (by assumption)]
      refine V_R (fun hR => ?_)
      refine V_bipush (pc := 35) (n' := (-3)) C (dk k_F_write 17 rfl) rfl ?_
      refine V_iret (pc := 37) C E (dk k_F_write 18 rfl) ?_
      first | (rw [show o_write tx c = (-3, tx) by unfold o_write; rw [if_pos (by omega), if_neg (by omega)]]; exact ⟨rfl, hC, Fc.rf σ⟩) | (rw [show o_write tx c = ((tx.length : Int) + 1, tx ++ [c]) by unfold o_write; rw [if_pos (by omega), if_pos (by omega)]]; have f : ∀ k, k ≠ 1 → k ≠ 2 → up (up σ 2 (σ 1 1) c) 1 1 (σ 1 1 + 1) k = σ k := (fun k a b => by rw [up_row _ _ _ a, up_row _ _ _ b]); exact ⟨by rw [up_at, t1], hC.mk2 (fun k a => f k (by omega) (by omega)) (hx0.fr (fun k a b => f k (by omega) (by omega))) (hU.fr (fun k a b => f k (by omega) (by omega))) (hK.fr (fun k a b => f k (by omega) (by omega))) (hl.fr (fun k a b => f k (by omega) (by omega))) (hT.add (by omega) (by omega) (by omega)), fun k a => f k (by omega) (by omega)⟩)
    · skip
      refine V_aload_n (pc := 25) C (dk k_F_write 13 rfl) rfl ?_
      rw [if_pos (by assumption)]
      refine V_R (fun hR => ?_)
      refine V_getr (pc := 26) (o2 := 1) C (dk k_F_write 14 rfl) fl_F_10 kq_0 (by decide) rfl (by decide) rfl ?_
      refine V_geti (pc := 29) (ji := 1) C (dk k_F_write 15 rfl) fl_F_94 kq_1 (by decide) rfl rfl ?_
      refine V_goto (pc := 32) C (dk k_F_write 16 rfl) 37 rfl ?_
      refine V_iret (pc := 37) C E (dk k_F_write 18 rfl) ?_
      first | (rw [show o_write tx c = (-3, tx) by unfold o_write; rw [if_pos (by omega), if_neg (by omega)]]; exact ⟨rfl, hC, Fc.rf σ⟩) | (rw [show o_write tx c = ((tx.length : Int) + 1, tx ++ [c]) by unfold o_write; rw [if_pos (by omega), if_pos (by omega)]]; have f : ∀ k, k ≠ 1 → k ≠ 2 → up (up σ 2 (σ 1 1) c) 1 1 (σ 1 1 + 1) k = σ k := (fun k a b => by rw [up_row _ _ _ a, up_row _ _ _ b]); exact ⟨by rw [up_at, t1], hC.mk2 (fun k a => f k (by omega) (by omega)) (hx0.fr (fun k a b => f k (by omega) (by omega))) (hU.fr (fun k a b => f k (by omega) (by omega))) (hK.fr (fun k a b => f k (by omega) (by omega))) (hl.fr (fun k a b => f k (by omega) (by omega))) (hT.add (by omega) (by omega) (by omega)), fun k a => f k (by omega) (by omega)⟩)
  · skip
    refine V_iconst (pc := 11) C (dk k_F_write 5 rfl) rfl ?_
    refine V_iret (pc := 12) C E (dk k_F_write 6 rfl) ?_
    rw [show o_write tx c = (-1, tx) from if_neg (by omega)]
    exact ⟨rfl, hC, Fc.rf σ⟩

def i_F_wipe : List (Nat × (Instr × Nat)) := [(0, (.aload_n 0, 1)), (1, (.getfield 10, 3)), (4, (.getfield 94, 3)), (7, (.istore_n 1, 1)), (8, (.aload_n 0, 1)), (9, (.getfield 10, 3)), (12, (.iconst 0, 1)), (13, (.putfield 94, 3)), (16, (.iload_n 1, 1)), (17, (.ireturn, 1))]
theorem k_F_wipe : i_F_wipe.all (fun q => decide (decode b_F_wipe q.1 = .ok q.2)) = true := by decide +kernel

set_option maxHeartbeats 1000000 in
set_option maxRecDepth 20000 in
theorem c_F_wipe (l : Launch) (G : GE) (σ : Wd) (pl sp : Nat) (π : PL) (x : ST) (us ks : List ST) (lk : List (Int × (Int × Int))) (tx : List Int) (j : Int) (hC : CR σ pl sp π x us ks lk tx) (hV : VK π x us ks j) (hj : j ≤ 100) : Ct l G y_F_wipe b_F_wipe 2 (some (.int)) 0 0 [vR 0] σ (Rt (some (vI tx.length)) (fun σ' => CR σ' pl sp π x us ks lk [] ∧ Fc σ σ')) := by
  refine Ct.of cm_F_wipe (Nat.le_of_ble_eq_true rfl) ?_
  intro X hXl hXG hXN hRm C E
  subst hXl; subst hXG
  show V X 0 [some (vR 0), none] [] σ
  refine V_R (fun hR => ?_)
  obtain ⟨hF, hsp0, hsp, hne, hx, hU, hK, hl, hT⟩ := id hC
  obtain ⟨ok, xk, usk, ksk, ks2⟩ := id hV
  have hF0 := hF
  obtain ⟨hm_pl, hπ⟩ := hF
  have hπ0 := hπ
  obtain ⟨hpl, e0, e2, e7, e10, eT, eX⟩ := hπ
  obtain ⟨hpl_1, hpl_2, hpl_3, hpl_4, hpl_5, hpl_6⟩ := kd_P hpl
  have ⟨k1, k2, k3, k4, k5, k6, kT, kX⟩ := ok
  have hx0 := hx
  obtain ⟨hs, f0, f1, fQ, fT⟩ := hx
  simp only [Nat.reduceAdd] at fQ fT
  have ⟨x1, x2, x3, x4, xQ, xT⟩ := xk
  have p512 := kd5 hpl
  have s512 := kd5 hsp
  obtain ⟨t1, t2, t3⟩ := id hT
  refine V_aload_n (pc := 0) C (dk k_F_wipe 0 rfl) rfl ?_
  refine V_getr (pc := 1) (o2 := 1) C (dk k_F_wipe 1 rfl) fl_F_10 kq_0 (by decide) rfl (by decide) rfl ?_
  refine V_geti (pc := 4) (ji := 1) C (dk k_F_wipe 2 rfl) fl_F_94 kq_1 (by decide) rfl rfl ?_
  refine V_istore_n (pc := 7) C (dk k_F_wipe 3 rfl) (by rw [hXN]; decide) ?_
  dsimp only [lst, lstL, lz, kill, Fin.val, Nat.reduceAdd]
  refine V_aload_n (pc := 8) C (dk k_F_wipe 4 rfl) rfl ?_
  refine V_getr (pc := 9) (o2 := 1) C (dk k_F_wipe 5 rfl) fl_F_10 kq_0 (by decide) rfl (by decide) rfl ?_
  refine V_iconst (pc := 12) C (dk k_F_wipe 6 rfl) rfl ?_
  refine V_puti (pc := 13) (ji := 1) C (dk k_F_wipe 7 rfl) fl_F_94 fw_2_1 kq_1 (by decide) rfl rfl R0 ?_
  refine V_R (fun hR => ?_)
  refine V_iload_n (pc := 16) C (dk k_F_wipe 8 rfl) rfl ?_
  refine V_iret (pc := 17) C E (dk k_F_wipe 9 rfl) ?_
  have f : ∀ k, k ≠ 1 → up σ 1 1 0 k = σ k := fun k a => up_row _ _ _ a
  exact ⟨by rw [t1], hC.mk2 (fun k a => f k (by omega)) (hx0.fr (fun k a b => f k (by omega))) (hU.fr (fun k a b => f k (by omega))) (hK.fr (fun k a b => f k (by omega))) (hl.fr (fun k a b => f k (by omega))) ⟨by rw [up_at]; rfl, by simp, fun k c h => by simp at h⟩, fun k a => f k (by omega)⟩

def i_F_person : List (Nat × (Instr × Nat)) := [(0, (.aload_n 0, 1)), (1, (.iload_n 1, 1)), (2, (.invokevirtual 109, 3)), (5, (.ifCond .eq 12, 3)), (8, (.iload_n 2, 1)), (9, (.iconst 0, 1)), (10, (.iconst 2, 1)), (11, (.invokestatic 98, 3)), (14, (.ifCond .ne 5, 3)), (17, (.iconst (-1), 1)), (18, (.ireturn, 1)), (19, (.iload_n 2, 1)), (20, (.lookupswitch 52 #[(0, 28), (1, 40)], 28)), (48, (.aload_n 0, 1)), (49, (.getfield 36, 3)), (52, (.getfield 113, 3)), (55, (.iload_n 1, 1)), (56, (.invokestatic 117, 3)), (59, (.ireturn, 1)), (60, (.aload_n 0, 1)), (61, (.getfield 36, 3)), (64, (.getfield 121, 3)), (67, (.iload_n 1, 1)), (68, (.invokestatic 117, 3)), (71, (.ireturn, 1)), (72, (.aload_n 0, 1)), (73, (.getfield 36, 3)), (76, (.aload_n 0, 1)), (77, (.getfield 26, 3)), (80, (.iload_n 1, 1)), (81, (.invokevirtual 124, 3)), (84, (.ireturn, 1))]
theorem k_F_person : i_F_person.all (fun q => decide (decode b_F_person q.1 = .ok q.2)) = true := by decide +kernel

set_option maxHeartbeats 1000000 in
set_option maxRecDepth 20000 in
theorem c_F_person (l : Launch) (G : GE) (σ : Wd) (pl sp : Nat) (π : PL) (x : ST) (us ks : List ST) (lk : List (Int × (Int × Int))) (tx : List Int) (j : Int) (hC : CR σ pl sp π x us ks lk tx) (hV : VK π x us ks j) (hj : j ≤ 100) (p k : Int) (hp : inR p) (hk : inR k) : Ct l G y_F_person b_F_person 3 (some (.int)) 2 45 [vR 0, vI p, vI k] σ (Dt (some (vI (o_person π x p k))) σ) := by
  refine Ct.of cm_F_person (Nat.le_of_ble_eq_true rfl) ?_
  intro X hXl hXG hXN hRm C E
  subst hXl; subst hXG
  have ⟨hp_1, hp_2⟩ := hp
  have ⟨hk_1, hk_2⟩ := hk
  show V X 0 [some (vR 0), some (vI p), some (vI k)] [] σ
  refine V_R (fun hR => ?_)
  obtain ⟨hF, hsp0, hsp, hne, hx, hU, hK, hl, hT⟩ := id hC
  obtain ⟨ok, xk, usk, ksk, ks2⟩ := id hV
  have hF0 := hF
  obtain ⟨hm_pl, hπ⟩ := hF
  have hπ0 := hπ
  obtain ⟨hpl, e0, e2, e7, e10, eT, eX⟩ := hπ
  obtain ⟨hpl_1, hpl_2, hpl_3, hpl_4, hpl_5, hpl_6⟩ := kd_P hpl
  have ⟨k1, k2, k3, k4, k5, k6, kT, kX⟩ := ok
  have hx0 := hx
  obtain ⟨hs, f0, f1, fQ, fT⟩ := hx
  simp only [Nat.reduceAdd] at fQ fT
  have ⟨x1, x2, x3, x4, xQ, xT⟩ := xk
  have p512 := kd5 hpl
  have s512 := kd5 hsp
  refine V_aload_n (pc := 0) C (dk k_F_person 0 rfl) rfl ?_
  refine V_iload_n (pc := 1) C (dk k_F_person 1 rfl) rfl ?_
  refine V_callV (pc := 2) C (dk k_F_person 2 rfl) lk_F_109 cm_F_isPerson vm_F_isPerson (c_F_isPerson _ _ _ pl π p hF0 ok hp) kq_0 rfl rfl rfl (Nat.le_of_ble_eq_true rfl) (Rm.mono hRm (by decide) (by decide)) ?_
  refine V_ifeqB (pc := 5) C (dk k_F_person 3 rfl) 17 rfl (fun h1 => ?_) (fun h1 => ?_)
  · skip
    refine V_iconst (pc := 17) C (dk k_F_person 9 rfl) rfl ?_
    refine V_iret (pc := 18) C E (dk k_F_person 10 rfl) ?_
    exact ⟨by unfold o_person; rw [if_neg (by omega)], rfl⟩
  · skip
    refine V_iload_n (pc := 8) C (dk k_F_person 4 rfl) rfl ?_
    refine V_iconst (pc := 9) C (dk k_F_person 5 rfl) rfl ?_
    refine V_iconst (pc := 10) C (dk k_F_person 6 rfl) rfl ?_
    refine V_callS (pc := 11) C (dk k_F_person 7 rfl) lk_F_98 cm_F_within sm_F_within (c_F_within _ _ _ k 0 2 hk ⟨by decide, by decide⟩ ⟨by decide, by decide⟩) rfl rfl (Nat.le_of_ble_eq_true rfl) (Rm.mono hRm (by decide) (by decide)) ?_
    refine V_ifneB (pc := 14) C (dk k_F_person 8 rfl) 19 rfl (fun h2 => ?_) (fun h2 => ?_)
    · skip
      refine V_iload_n (pc := 19) C (dk k_F_person 11 rfl) rfl ?_
      refine V_lookup (pc := 20) C (dk k_F_person 12 rfl) (by decide) (by first | exact hR _ _ | with_reducible assumption | exact ⟨by omega, by omega⟩) ?_
      by_cases h4 : k = 0
      · refine ⟨28, 48, by rw [h4]; rfl, rfl, ?_⟩
        refine V_aload_n (pc := 48) C (dk k_F_person 13 rfl) rfl ?_
        refine V_getr (pc := 49) (o2 := 19) C (dk k_F_person 14 rfl) fl_F_36 kq_0 (by decide) rfl (by decide) rfl ?_
        refine V_getr (pc := 52) (o2 := 20) C (dk k_F_person 15 rfl) fl_F_113 kq_19 (by decide) rfl (by decide) rfl ?_
        refine V_iload_n (pc := 55) C (dk k_F_person 16 rfl) rfl ?_
        refine V_callS (pc := 56) C (dk k_F_person 17 rfl) lk_F_117 cm_F_at sm_F_at (c_at _ _ _ (20) 5 p kq_20 (by decide) (by omega) (by omega)) rfl rfl (Nat.le_of_ble_eq_true rfl) (Rm.mono hRm (by decide) (by decide)) ?_
        refine V_iret (pc := 59) C E (dk k_F_person 18 rfl) ?_
        obtain ⟨gG, gR⟩ := fQ p (by omega) (by omega)
        exact ⟨by unfold o_person; rw [if_pos (by omega), if_pos (by omega), gG], rfl⟩
      by_cases h5 : k = 1
      · refine ⟨40, 60, by rw [h5]; rfl, rfl, ?_⟩
        refine V_aload_n (pc := 60) C (dk k_F_person 19 rfl) rfl ?_
        refine V_getr (pc := 61) (o2 := 19) C (dk k_F_person 20 rfl) fl_F_36 kq_0 (by decide) rfl (by decide) rfl ?_
        refine V_getr (pc := 64) (o2 := 21) C (dk k_F_person 21 rfl) fl_F_121 kq_19 (by decide) rfl (by decide) rfl ?_
        refine V_iload_n (pc := 67) C (dk k_F_person 22 rfl) rfl ?_
        refine V_callS (pc := 68) C (dk k_F_person 23 rfl) lk_F_117 cm_F_at sm_F_at (c_at _ _ _ (21) 5 p kq_21 (by decide) (by omega) (by omega)) rfl rfl (Nat.le_of_ble_eq_true rfl) (Rm.mono hRm (by decide) (by decide)) ?_
        refine V_iret (pc := 71) C E (dk k_F_person 24 rfl) ?_
        obtain ⟨gG, gR⟩ := fQ p (by omega) (by omega)
        exact ⟨by unfold o_person; rw [if_pos (by omega), if_neg (by omega), if_pos (by omega), gR], rfl⟩
      refine ⟨52, 72, by simp only [Op.lookupswitch.offset_cons]; (repeat rw [if_neg (by omega)]); rfl, rfl, ?_⟩
      refine V_aload_n (pc := 72) C (dk k_F_person 25 rfl) rfl ?_
      refine V_getr (pc := 73) (o2 := 19) C (dk k_F_person 26 rfl) fl_F_36 kq_0 (by decide) rfl (by decide) rfl ?_
      refine V_aload_n (pc := 76) C (dk k_F_person 27 rfl) rfl ?_
      refine V_getm (pc := 77) (o2 := pl) C (dk k_F_person 28 rfl) fl_F_26 kq_0 (by decide) rfl hm_pl ?_
      refine V_iload_n (pc := 80) C (dk k_F_person 29 rfl) rfl ?_
      refine V_callV (pc := 81) C (dk k_F_person 30 rfl) lk_F_124 cm_S_thingsWith vm_S_thingsWith (c_S_thingsWith _ _ _ 19 pl π x j hπ0 ok hx0 xk (by omega) p hp) kq_19 rfl rfl rfl (Nat.le_of_ble_eq_true rfl) (Rm.mono hRm (by decide) (by decide)) ?_
      refine V_iret (pc := 84) C E (dk k_F_person 31 rfl) ?_
      exact ⟨by unfold o_person; rw [if_pos (by omega), if_neg (by omega), if_neg (by omega)], rfl⟩
    · skip
      refine V_iconst (pc := 17) C (dk k_F_person 9 rfl) rfl ?_
      refine V_iret (pc := 18) C E (dk k_F_person 10 rfl) ?_
      exact ⟨by unfold o_person; rw [if_neg (by omega)], rfl⟩

def i_F_thing : List (Nat × (Instr × Nat)) := [(0, (.aload_n 0, 1)), (1, (.iload_n 1, 1)), (2, (.invokevirtual 128, 3)), (5, (.ifCond .eq 12, 3)), (8, (.iload_n 2, 1)), (9, (.iconst 0, 1)), (10, (.iconst 5, 1)), (11, (.invokestatic 98, 3)), (14, (.ifCond .ne 5, 3)), (17, (.iconst (-1), 1)), (18, (.ireturn, 1)), (19, (.iload_n 2, 1)), (20, (.tableswitch 96 0 4 #[36, 48, 60, 72, 84], 36)), (56, (.aload_n 0, 1)), (57, (.getfield 26, 3)), (60, (.getfield 131, 3)), (63, (.iload_n 1, 1)), (64, (.invokestatic 117, 3)), (67, (.ireturn, 1)), (68, (.aload_n 0, 1)), (69, (.getfield 26, 3)), (72, (.getfield 134, 3)), (75, (.iload_n 1, 1)), (76, (.invokestatic 117, 3)), (79, (.ireturn, 1)), (80, (.aload_n 0, 1)), (81, (.getfield 36, 3)), (84, (.getfield 137, 3)), (87, (.iload_n 1, 1)), (88, (.invokestatic 117, 3)), (91, (.ireturn, 1)), (92, (.aload_n 0, 1)), (93, (.getfield 26, 3)), (96, (.getfield 140, 3)), (99, (.iload_n 1, 1)), (100, (.invokestatic 117, 3)), (103, (.ireturn, 1)), (104, (.aload_n 0, 1)), (105, (.getfield 36, 3)), (108, (.getfield 143, 3)), (111, (.iload_n 1, 1)), (112, (.invokestatic 117, 3)), (115, (.ireturn, 1)), (116, (.aload_n 0, 1)), (117, (.getfield 36, 3)), (120, (.aload_n 0, 1)), (121, (.getfield 26, 3)), (124, (.iload_n 1, 1)), (125, (.invokevirtual 146, 3)), (128, (.ireturn, 1))]
theorem k_F_thing : i_F_thing.all (fun q => decide (decode b_F_thing q.1 = .ok q.2)) = true := by decide +kernel

set_option maxHeartbeats 1000000 in
set_option maxRecDepth 20000 in
theorem c_F_thing (l : Launch) (G : GE) (σ : Wd) (pl sp : Nat) (π : PL) (x : ST) (us ks : List ST) (lk : List (Int × (Int × Int))) (tx : List Int) (j : Int) (hC : CR σ pl sp π x us ks lk tx) (hV : VK π x us ks j) (hj : j ≤ 100) (t k : Int) (ht : inR t) (hk : inR k) : Ct l G y_F_thing b_F_thing 3 (some (.int)) 3 64 [vR 0, vI t, vI k] σ (Dt (some (vI (o_thing π x t k))) σ) := by
  refine Ct.of cm_F_thing (Nat.le_of_ble_eq_true rfl) ?_
  intro X hXl hXG hXN hRm C E
  subst hXl; subst hXG
  have ⟨ht_1, ht_2⟩ := ht
  have ⟨hk_1, hk_2⟩ := hk
  show V X 0 [some (vR 0), some (vI t), some (vI k)] [] σ
  refine V_R (fun hR => ?_)
  obtain ⟨hF, hsp0, hsp, hne, hx, hU, hK, hl, hT⟩ := id hC
  obtain ⟨ok, xk, usk, ksk, ks2⟩ := id hV
  have hF0 := hF
  obtain ⟨hm_pl, hπ⟩ := hF
  have hπ0 := hπ
  obtain ⟨hpl, e0, e2, e7, e10, eT, eX⟩ := hπ
  obtain ⟨hpl_1, hpl_2, hpl_3, hpl_4, hpl_5, hpl_6⟩ := kd_P hpl
  have ⟨k1, k2, k3, k4, k5, k6, kT, kX⟩ := ok
  have hx0 := hx
  obtain ⟨hs, f0, f1, fQ, fT⟩ := hx
  simp only [Nat.reduceAdd] at fQ fT
  have ⟨x1, x2, x3, x4, xQ, xT⟩ := xk
  have p512 := kd5 hpl
  have s512 := kd5 hsp
  refine V_aload_n (pc := 0) C (dk k_F_thing 0 rfl) rfl ?_
  refine V_iload_n (pc := 1) C (dk k_F_thing 1 rfl) rfl ?_
  refine V_callV (pc := 2) C (dk k_F_thing 2 rfl) lk_F_128 cm_F_isThing vm_F_isThing (c_F_isThing _ _ _ pl π t hF0 ok ht) kq_0 rfl rfl rfl (Nat.le_of_ble_eq_true rfl) (Rm.mono hRm (by decide) (by decide)) ?_
  refine V_ifeqB (pc := 5) C (dk k_F_thing 3 rfl) 17 rfl (fun h1 => ?_) (fun h1 => ?_)
  · skip
    refine V_iconst (pc := 17) C (dk k_F_thing 9 rfl) rfl ?_
    refine V_iret (pc := 18) C E (dk k_F_thing 10 rfl) ?_
    exact ⟨by unfold o_thing; rw [if_neg (by omega)], rfl⟩
  · skip
    refine V_iload_n (pc := 8) C (dk k_F_thing 4 rfl) rfl ?_
    refine V_iconst (pc := 9) C (dk k_F_thing 5 rfl) rfl ?_
    refine V_iconst (pc := 10) C (dk k_F_thing 6 rfl) rfl ?_
    refine V_callS (pc := 11) C (dk k_F_thing 7 rfl) lk_F_98 cm_F_within sm_F_within (c_F_within _ _ _ k 0 5 hk ⟨by decide, by decide⟩ ⟨by decide, by decide⟩) rfl rfl (Nat.le_of_ble_eq_true rfl) (Rm.mono hRm (by decide) (by decide)) ?_
    refine V_ifneB (pc := 14) C (dk k_F_thing 8 rfl) 19 rfl (fun h2 => ?_) (fun h2 => ?_)
    · skip
      refine V_iload_n (pc := 19) C (dk k_F_thing 11 rfl) rfl ?_
      refine V_switch (pc := 20) C (dk k_F_thing 12 rfl) (by first | exact hR _ _ | with_reducible assumption | exact ⟨by omega, by omega⟩) (fun h3 tgt ht => ?_) ⟨116, rfl⟩ (fun h3 h3b => ?_)
      · obtain rfl : tgt = 116 := by omega
        refine V_aload_n (pc := 116) C (dk k_F_thing 43 rfl) rfl ?_
        refine V_getr (pc := 117) (o2 := 19) C (dk k_F_thing 44 rfl) fl_F_36 kq_0 (by decide) rfl (by decide) rfl ?_
        refine V_aload_n (pc := 120) C (dk k_F_thing 45 rfl) rfl ?_
        refine V_getm (pc := 121) (o2 := pl) C (dk k_F_thing 46 rfl) fl_F_26 kq_0 (by decide) rfl hm_pl ?_
        refine V_iload_n (pc := 124) C (dk k_F_thing 47 rfl) rfl ?_
        refine V_callV (pc := 125) C (dk k_F_thing 48 rfl) lk_F_146 cm_S_price vm_S_price (c_S_price _ _ _ 19 pl π x j t hπ0 ok hx0 xk (by omega) (by omega) (by omega)) kq_19 rfl rfl rfl (Nat.le_of_ble_eq_true rfl) (Rm.mono hRm (by decide) (by decide)) ?_
        refine V_iret (pc := 128) C E (dk k_F_thing 49 rfl) ?_
        exact ⟨by unfold o_thing; rw [if_pos (by omega), if_neg (by omega), if_neg (by omega), if_neg (by omega), if_neg (by omega), if_neg (by omega)], rfl⟩
      · skip
        have h3c : k = 0 ∨ k = 1 ∨ k = 2 ∨ k = 3 ∨ k = 4 := by omega
        rcases h3c with h3d | h3d | h3d | h3d | h3d
        · refine ⟨36, 56, by rw [h3d]; rfl, rfl, ?_⟩
          refine V_aload_n (pc := 56) C (dk k_F_thing 13 rfl) rfl ?_
          refine V_getm (pc := 57) (o2 := pl) C (dk k_F_thing 14 rfl) fl_F_26 kq_0 (by decide) rfl hm_pl ?_
          refine V_getr (pc := 60) (o2 := pl + 2) C (dk k_F_thing 15 rfl) fl_F_131 hpl (by decide) rfl (by decide) rfl ?_
          refine V_iload_n (pc := 63) C (dk k_F_thing 16 rfl) rfl ?_
          refine V_callS (pc := 64) C (dk k_F_thing 17 rfl) lk_F_117 cm_F_at sm_F_at (c_at _ _ _ (pl + 2) 8 t hpl_2 (by decide) (by omega) (by omega)) rfl rfl (Nat.le_of_ble_eq_true rfl) (Rm.mono hRm (by decide) (by decide)) ?_
          refine V_iret (pc := 67) C E (dk k_F_thing 18 rfl) ?_
          obtain ⟨gN, gP⟩ := fT t (by omega) (by omega)
          obtain ⟨gO, gK, gU⟩ := eT t (by omega) (by omega)
          exact ⟨by unfold o_thing; rw [if_pos (by omega), if_pos (by omega), gO], rfl⟩
        · refine ⟨48, 68, by rw [h3d]; rfl, rfl, ?_⟩
          refine V_aload_n (pc := 68) C (dk k_F_thing 19 rfl) rfl ?_
          refine V_getm (pc := 69) (o2 := pl) C (dk k_F_thing 20 rfl) fl_F_26 kq_0 (by decide) rfl hm_pl ?_
          refine V_getr (pc := 72) (o2 := pl + 3) C (dk k_F_thing 21 rfl) fl_F_134 hpl (by decide) rfl (by decide) rfl ?_
          refine V_iload_n (pc := 75) C (dk k_F_thing 22 rfl) rfl ?_
          refine V_callS (pc := 76) C (dk k_F_thing 23 rfl) lk_F_117 cm_F_at sm_F_at (c_at _ _ _ (pl + 3) 8 t hpl_3 (by decide) (by omega) (by omega)) rfl rfl (Nat.le_of_ble_eq_true rfl) (Rm.mono hRm (by decide) (by decide)) ?_
          refine V_iret (pc := 79) C E (dk k_F_thing 24 rfl) ?_
          obtain ⟨gN, gP⟩ := fT t (by omega) (by omega)
          obtain ⟨gO, gK, gU⟩ := eT t (by omega) (by omega)
          exact ⟨by unfold o_thing; rw [if_pos (by omega), if_neg (by omega), if_pos (by omega), gK], rfl⟩
        · refine ⟨60, 80, by rw [h3d]; rfl, rfl, ?_⟩
          refine V_aload_n (pc := 80) C (dk k_F_thing 25 rfl) rfl ?_
          refine V_getr (pc := 81) (o2 := 19) C (dk k_F_thing 26 rfl) fl_F_36 kq_0 (by decide) rfl (by decide) rfl ?_
          refine V_getr (pc := 84) (o2 := 22) C (dk k_F_thing 27 rfl) fl_F_137 kq_19 (by decide) rfl (by decide) rfl ?_
          refine V_iload_n (pc := 87) C (dk k_F_thing 28 rfl) rfl ?_
          refine V_callS (pc := 88) C (dk k_F_thing 29 rfl) lk_F_117 cm_F_at sm_F_at (c_at _ _ _ (22) 8 t kq_22 (by decide) (by omega) (by omega)) rfl rfl (Nat.le_of_ble_eq_true rfl) (Rm.mono hRm (by decide) (by decide)) ?_
          refine V_iret (pc := 91) C E (dk k_F_thing 30 rfl) ?_
          obtain ⟨gN, gP⟩ := fT t (by omega) (by omega)
          obtain ⟨gO, gK, gU⟩ := eT t (by omega) (by omega)
          exact ⟨by unfold o_thing; rw [if_pos (by omega), if_neg (by omega), if_neg (by omega), if_pos (by omega), gN], rfl⟩
        · refine ⟨72, 92, by rw [h3d]; rfl, rfl, ?_⟩
          refine V_aload_n (pc := 92) C (dk k_F_thing 31 rfl) rfl ?_
          refine V_getm (pc := 93) (o2 := pl) C (dk k_F_thing 32 rfl) fl_F_26 kq_0 (by decide) rfl hm_pl ?_
          refine V_getr (pc := 96) (o2 := pl + 5) C (dk k_F_thing 33 rfl) fl_F_140 hpl (by decide) rfl (by decide) rfl ?_
          refine V_iload_n (pc := 99) C (dk k_F_thing 34 rfl) rfl ?_
          refine V_callS (pc := 100) C (dk k_F_thing 35 rfl) lk_F_117 cm_F_at sm_F_at (c_at _ _ _ (pl + 5) 8 t hpl_5 (by decide) (by omega) (by omega)) rfl rfl (Nat.le_of_ble_eq_true rfl) (Rm.mono hRm (by decide) (by decide)) ?_
          refine V_iret (pc := 103) C E (dk k_F_thing 36 rfl) ?_
          obtain ⟨gN, gP⟩ := fT t (by omega) (by omega)
          obtain ⟨gO, gK, gU⟩ := eT t (by omega) (by omega)
          exact ⟨by unfold o_thing; rw [if_pos (by omega), if_neg (by omega), if_neg (by omega), if_neg (by omega), if_pos (by omega), gU], rfl⟩
        · refine ⟨84, 104, by rw [h3d]; rfl, rfl, ?_⟩
          refine V_aload_n (pc := 104) C (dk k_F_thing 37 rfl) rfl ?_
          refine V_getr (pc := 105) (o2 := 19) C (dk k_F_thing 38 rfl) fl_F_36 kq_0 (by decide) rfl (by decide) rfl ?_
          refine V_getr (pc := 108) (o2 := 23) C (dk k_F_thing 39 rfl) fl_F_143 kq_19 (by decide) rfl (by decide) rfl ?_
          refine V_iload_n (pc := 111) C (dk k_F_thing 40 rfl) rfl ?_
          refine V_callS (pc := 112) C (dk k_F_thing 41 rfl) lk_F_117 cm_F_at sm_F_at (c_at _ _ _ (23) 8 t kq_23 (by decide) (by omega) (by omega)) rfl rfl (Nat.le_of_ble_eq_true rfl) (Rm.mono hRm (by decide) (by decide)) ?_
          refine V_iret (pc := 115) C E (dk k_F_thing 42 rfl) ?_
          obtain ⟨gN, gP⟩ := fT t (by omega) (by omega)
          obtain ⟨gO, gK, gU⟩ := eT t (by omega) (by omega)
          exact ⟨by unfold o_thing; rw [if_pos (by omega), if_neg (by omega), if_neg (by omega), if_neg (by omega), if_neg (by omega), if_pos (by omega), gP], rfl⟩
    · skip
      refine V_iconst (pc := 17) C (dk k_F_thing 9 rfl) rfl ?_
      refine V_iret (pc := 18) C E (dk k_F_thing 10 rfl) ?_
      exact ⟨by unfold o_thing; rw [if_neg (by omega)], rfl⟩

def i_F_pays : List (Nat × (Instr × Nat)) := [(0, (.iload_n 1, 1)), (1, (.iconst 0, 1)), (2, (.bipush 99, 2)), (4, (.invokestatic 98, 3)), (7, (.ifCond .eq 22, 3)), (10, (.aload_n 0, 1)), (11, (.getfield 26, 3)), (14, (.aload_n 0, 1)), (15, (.getfield 36, 3)), (18, (.getfield 149, 3)), (21, (.iload_n 1, 1)), (22, (.iadd, 1)), (23, (.invokevirtual 152, 3)), (26, (.goto 4, 3)), (29, (.iconst (-1), 1)), (30, (.ireturn, 1))]
theorem k_F_pays : i_F_pays.all (fun q => decide (decode b_F_pays q.1 = .ok q.2)) = true := by decide +kernel

set_option maxHeartbeats 1000000 in
set_option maxRecDepth 20000 in
theorem c_F_pays (l : Launch) (G : GE) (σ : Wd) (pl sp : Nat) (π : PL) (x : ST) (us ks : List ST) (lk : List (Int × (Int × Int))) (tx : List Int) (j : Int) (hC : CR σ pl sp π x us ks lk tx) (hV : VK π x us ks j) (hj : j ≤ 100) (n : Int) (hn : inR n) : Ct l G y_F_pays b_F_pays 2 (some (.int)) 2 42 [vR 0, vI n] σ (Dt (some (vI (o_pays π x n))) σ) := by
  refine Ct.of cm_F_pays (Nat.le_of_ble_eq_true rfl) ?_
  intro X hXl hXG hXN hRm C E
  subst hXl; subst hXG
  have ⟨hn_1, hn_2⟩ := hn
  show V X 0 [some (vR 0), some (vI n)] [] σ
  refine V_R (fun hR => ?_)
  obtain ⟨hF, hsp0, hsp, hne, hx, hU, hK, hl, hT⟩ := id hC
  obtain ⟨ok, xk, usk, ksk, ks2⟩ := id hV
  have hF0 := hF
  obtain ⟨hm_pl, hπ⟩ := hF
  have hπ0 := hπ
  obtain ⟨hpl, e0, e2, e7, e10, eT, eX⟩ := hπ
  obtain ⟨hpl_1, hpl_2, hpl_3, hpl_4, hpl_5, hpl_6⟩ := kd_P hpl
  have ⟨k1, k2, k3, k4, k5, k6, kT, kX⟩ := ok
  have hx0 := hx
  obtain ⟨hs, f0, f1, fQ, fT⟩ := hx
  simp only [Nat.reduceAdd] at fQ fT
  have ⟨x1, x2, x3, x4, xQ, xT⟩ := xk
  have p512 := kd5 hpl
  have s512 := kd5 hsp
  refine V_iload_n (pc := 0) C (dk k_F_pays 0 rfl) rfl ?_
  refine V_iconst (pc := 1) C (dk k_F_pays 1 rfl) rfl ?_
  refine V_bipush (pc := 2) (n' := 99) C (dk k_F_pays 2 rfl) rfl ?_
  refine V_callS (pc := 4) C (dk k_F_pays 3 rfl) lk_F_98 cm_F_within sm_F_within (c_F_within _ _ _ n 0 99 hn ⟨by decide, by decide⟩ ⟨by decide, by decide⟩) rfl rfl (Nat.le_of_ble_eq_true rfl) (Rm.mono hRm (by decide) (by decide)) ?_
  refine V_ifeqB (pc := 7) C (dk k_F_pays 4 rfl) 29 rfl (fun h1 => ?_) (fun h1 => ?_)
  · skip
    refine V_iconst (pc := 29) C (dk k_F_pays 14 rfl) rfl ?_
    refine V_iret (pc := 30) C E (dk k_F_pays 15 rfl) ?_
    exact ⟨by unfold o_pays; first | rw [if_pos (by omega)] | rw [if_neg (by omega)], rfl⟩
  · skip
    refine V_aload_n (pc := 10) C (dk k_F_pays 5 rfl) rfl ?_
    refine V_getm (pc := 11) (o2 := pl) C (dk k_F_pays 6 rfl) fl_F_26 kq_0 (by decide) rfl hm_pl ?_
    refine V_aload_n (pc := 14) C (dk k_F_pays 7 rfl) rfl ?_
    refine V_getr (pc := 15) (o2 := 19) C (dk k_F_pays 8 rfl) fl_F_36 kq_0 (by decide) rfl (by decide) rfl ?_
    refine V_geti (pc := 18) (ji := 0) C (dk k_F_pays 9 rfl) fl_F_149 kq_19 (by decide) rfl rfl ?_
    refine V_iload_n (pc := 21) C (dk k_F_pays 10 rfl) rfl ?_
    refine V_iadd (pc := 22) C (dk k_F_pays 11 rfl) ?_
    rw [f0]
    refine V_callV (pc := 23) C (dk k_F_pays 12 rfl) lk_F_152 cm_P_rate vm_P_rate (c_P_rate _ _ _ pl π (sD x + n) hπ0 ok ⟨by omega, by omega⟩ (by omega)) hpl rfl rfl rfl (Nat.le_of_ble_eq_true rfl) (Rm.mono hRm (by decide) (by decide)) ?_
    refine V_goto (pc := 26) C (dk k_F_pays 13 rfl) 30 rfl ?_
    refine V_iret (pc := 30) C E (dk k_F_pays 15 rfl) ?_
    exact ⟨by unfold o_pays; first | rw [if_pos (by omega)] | rw [if_neg (by omega)], rfl⟩

def i_F_sell : List (Nat × (Instr × Nat)) := [(0, (.aload_n 0, 1)), (1, (.iload_n 1, 1)), (2, (.invokevirtual 128, 3)), (5, (.ifCond .ne 5, 3)), (8, (.iconst (-1), 1)), (9, (.ireturn, 1)), (10, (.aload_n 0, 1)), (11, (.getfield 36, 3)), (14, (.aload_n 0, 1)), (15, (.getfield 26, 3)), (18, (.iload_n 1, 1)), (19, (.invokevirtual 156, 3)), (22, (.ifCond .ne 6, 3)), (25, (.bipush (-2), 2)), (27, (.ireturn, 1)), (28, (.aload_n 0, 1)), (29, (.getfield 36, 3)), (32, (.aload_n 0, 1)), (33, (.getfield 26, 3)), (36, (.iload_n 1, 1)), (37, (.invokevirtual 146, 3)), (40, (.istore_n 2, 1)), (41, (.aload_n 0, 1)), (42, (.getfield 46, 3)), (45, (.aload_n 0, 1)), (46, (.getfield 36, 3)), (49, (.invokevirtual 160, 3)), (52, (.aload_n 0, 1)), (53, (.getfield 36, 3)), (56, (.aload_n 0, 1)), (57, (.getfield 26, 3)), (60, (.iload_n 1, 1)), (61, (.invokevirtual 164, 3)), (64, (.iload_n 2, 1)), (65, (.ireturn, 1))]
theorem k_F_sell : i_F_sell.all (fun q => decide (decode b_F_sell q.1 = .ok q.2)) = true := by decide +kernel

set_option maxHeartbeats 1000000 in
set_option maxRecDepth 20000 in
theorem c_F_sell (l : Launch) (G : GE) (σ : Wd) (pl sp : Nat) (π : PL) (x : ST) (us ks : List ST) (lk : List (Int × (Int × Int))) (tx : List Int) (j : Int) (hC : CR σ pl sp π x us ks lk tx) (hV : VK π x us ks j) (hj : j ≤ 100) (t : Int) (ht : inR t) : Ct l G y_F_sell b_F_sell 3 (some (.int)) 4 87 [vR 0, vI t] σ (Rt (some (vI (o_sell π x us t).1)) (fun σ' => CR σ' pl sp π (o_sell π x us t).2.1 (o_sell π x us t).2.2 ks lk tx ∧ Fc σ σ')) := by
  refine Ct.of cm_F_sell (Nat.le_of_ble_eq_true rfl) ?_
  intro X hXl hXG hXN hRm C E
  subst hXl; subst hXG
  have ⟨ht_1, ht_2⟩ := ht
  show V X 0 [some (vR 0), some (vI t), none] [] σ
  refine V_R (fun hR => ?_)
  obtain ⟨hF, hsp0, hsp, hne, hx, hU, hK, hl, hT⟩ := id hC
  obtain ⟨ok, xk, usk, ksk, ks2⟩ := id hV
  have hF0 := hF
  obtain ⟨hm_pl, hπ⟩ := hF
  have hπ0 := hπ
  obtain ⟨hpl, e0, e2, e7, e10, eT, eX⟩ := hπ
  obtain ⟨hpl_1, hpl_2, hpl_3, hpl_4, hpl_5, hpl_6⟩ := kd_P hpl
  have ⟨k1, k2, k3, k4, k5, k6, kT, kX⟩ := ok
  have hx0 := hx
  obtain ⟨hs, f0, f1, fQ, fT⟩ := hx
  simp only [Nat.reduceAdd] at fQ fT
  have ⟨x1, x2, x3, x4, xQ, xT⟩ := xk
  have p512 := kd5 hpl
  have s512 := kd5 hsp
  refine V_aload_n (pc := 0) C (dk k_F_sell 0 rfl) rfl ?_
  refine V_iload_n (pc := 1) C (dk k_F_sell 1 rfl) rfl ?_
  refine V_callV (pc := 2) C (dk k_F_sell 2 rfl) lk_F_128 cm_F_isThing vm_F_isThing (c_F_isThing _ _ _ pl π t hF0 ok ht) kq_0 rfl rfl rfl (Nat.le_of_ble_eq_true rfl) (Rm.mono hRm (by decide) (by decide)) ?_
  refine V_ifneB (pc := 5) C (dk k_F_sell 3 rfl) 10 rfl (fun h1 => ?_) (fun h1 => ?_)
  · skip
    refine V_aload_n (pc := 10) C (dk k_F_sell 6 rfl) rfl ?_
    refine V_getr (pc := 11) (o2 := 19) C (dk k_F_sell 7 rfl) fl_F_36 kq_0 (by decide) rfl (by decide) rfl ?_
    refine V_aload_n (pc := 14) C (dk k_F_sell 8 rfl) rfl ?_
    refine V_getm (pc := 15) (o2 := pl) C (dk k_F_sell 9 rfl) fl_F_26 kq_0 (by decide) rfl hm_pl ?_
    refine V_iload_n (pc := 18) C (dk k_F_sell 10 rfl) rfl ?_
    refine V_callV (pc := 19) C (dk k_F_sell 11 rfl) lk_F_156 cm_S_canSell vm_S_canSell (c_S_canSell _ _ _ 19 pl π x j t hπ0 ok hx0 xk (by omega) (by omega) (by omega)) kq_19 rfl rfl rfl (Nat.le_of_ble_eq_true rfl) (Rm.mono hRm (by decide) (by decide)) ?_
    refine V_ifneB (pc := 22) C (dk k_F_sell 12 rfl) 28 rfl (fun h2 => ?_) (fun h2 => ?_)
    · skip
      refine V_aload_n (pc := 28) C (dk k_F_sell 15 rfl) rfl ?_
      refine V_getr (pc := 29) (o2 := 19) C (dk k_F_sell 16 rfl) fl_F_36 kq_0 (by decide) rfl (by decide) rfl ?_
      refine V_aload_n (pc := 32) C (dk k_F_sell 17 rfl) rfl ?_
      refine V_getm (pc := 33) (o2 := pl) C (dk k_F_sell 18 rfl) fl_F_26 kq_0 (by decide) rfl hm_pl ?_
      refine V_iload_n (pc := 36) C (dk k_F_sell 19 rfl) rfl ?_
      refine V_callV (pc := 37) C (dk k_F_sell 20 rfl) lk_F_146 cm_S_price vm_S_price (c_S_price _ _ _ 19 pl π x j t hπ0 ok hx0 xk (by omega) (by omega) (by omega)) kq_19 rfl rfl rfl (Nat.le_of_ble_eq_true rfl) (Rm.mono hRm (by decide) (by decide)) ?_
      refine V_istore_n (pc := 40) C (dk k_F_sell 21 rfl) (by rw [hXN]; decide) ?_
      dsimp only [lst, lstL, lz, kill, Fin.val, Nat.reduceAdd]
      refine V_aload_n (pc := 41) C (dk k_F_sell 22 rfl) rfl ?_
      refine V_getr (pc := 42) (o2 := 29) C (dk k_F_sell 23 rfl) fl_F_46 kq_0 (by decide) rfl (by decide) rfl ?_
      refine V_aload_n (pc := 45) C (dk k_F_sell 24 rfl) rfl ?_
      refine V_getr (pc := 46) (o2 := 19) C (dk k_F_sell 25 rfl) fl_F_36 kq_0 (by decide) rfl (by decide) rfl ?_
      refine V_callV0r (pc := 49) C (dk k_F_sell 26 rfl) lk_F_160 cm_M_push vm_M_push (c_M_push _ _ _ 29 19 π x us ok hU hx0 (by omega)) kq_29 rfl rfl rfl (Nat.le_of_ble_eq_true rfl) (Rm.mono hRm (by decide) (by decide)) (fun τ1 hq1 => ?_)
      refine V_R (fun hR => ?_)
      have g : ∀ k, (k < 29 ∨ 71 ≤ k) → τ1 k = σ k := fun k a => hq1.2 k (by omega)
      have hm2 : (τ1 0 2).toNat = pl := by rw [g 0 (by omega)]; exact hm_pl
      refine V_aload_n (pc := 52) C (dk k_F_sell 27 rfl) rfl ?_
      refine V_getr (pc := 53) (o2 := 19) C (dk k_F_sell 28 rfl) fl_F_36 kq_0 (by decide) rfl (by decide) rfl ?_
      refine V_aload_n (pc := 56) C (dk k_F_sell 29 rfl) rfl ?_
      refine V_getm (pc := 57) (o2 := pl) C (dk k_F_sell 30 rfl) fl_F_26 kq_0 (by decide) rfl hm2 ?_
      refine V_iload_n (pc := 60) C (dk k_F_sell 31 rfl) rfl ?_
      refine V_callV0r (pc := 61) C (dk k_F_sell 32 rfl) lk_F_164 cm_S_moveToCellar vm_S_moveToCellar (c_S_moveToCellar _ _ _ 19 pl π x j t (hπ0.fr (fun k a b => g k (by omega))) ok (hx0.fr (fun k a b => g k (by omega))) xk (by omega) (by omega) (by omega) (by omega)) kq_19 rfl rfl rfl (Nat.le_of_ble_eq_true rfl) (Rm.mono hRm (by decide) (by decide)) (fun τ2 hq2 => ?_)
      refine V_R (fun hR => ?_)
      refine V_iload_n (pc := 64) C (dk k_F_sell 33 rfl) rfl ?_
      refine V_iret (pc := 65) C E (dk k_F_sell 34 rfl) ?_
      rw [show o_sell π x us t = (prc π x t, (sellX π x t, (x :: us).take 8)) by unfold o_sell; rw [if_pos (by omega), if_pos (by assumption)]]
      have f : ∀ k, ¬ (19 ≤ k ∧ k < 24) → ¬ (29 ≤ k ∧ k < 71) → τ2 k = σ k := fun k a b => (hq2.2 k (by omega)).trans (g k (by omega))
      exact ⟨rfl, hC.mk2 (fun k a => f k (by omega) (by omega)) hq2.1 (hq1.1.fr (fun k a b => hq2.2 k (by omega))) (hK.fr (fun k a b => f k (by omega) (by omega))) (hl.fr (fun k a b => f k (by omega) (by omega))) (hT.fr (f 1 (by omega) (by omega)) (f 2 (by omega) (by omega))), fun k a => f k (by omega) (by omega)⟩
    · skip
      refine V_bipush (pc := 25) (n' := (-2)) C (dk k_F_sell 13 rfl) rfl ?_
      refine V_iret (pc := 27) C E (dk k_F_sell 14 rfl) ?_
      rw [show o_sell π x us t = (-2, (x, us)) by unfold o_sell; rw [if_pos (by omega), if_neg (by assumption)]]
      exact ⟨rfl, hC, Fc.rf σ⟩
  · skip
    refine V_iconst (pc := 8) C (dk k_F_sell 4 rfl) rfl ?_
    refine V_iret (pc := 9) C E (dk k_F_sell 5 rfl) ?_
    rw [show o_sell π x us t = (-1, (x, us)) from if_neg (by omega)]
    exact ⟨rfl, hC, Fc.rf σ⟩

def i_F_buyBack : List (Nat × (Instr × Nat)) := [(0, (.aload_n 0, 1)), (1, (.iload_n 1, 1)), (2, (.invokevirtual 128, 3)), (5, (.ifCond .ne 5, 3)), (8, (.iconst (-1), 1)), (9, (.ireturn, 1)), (10, (.aload_n 0, 1)), (11, (.getfield 36, 3)), (14, (.aload_n 0, 1)), (15, (.getfield 26, 3)), (18, (.iload_n 1, 1)), (19, (.invokevirtual 168, 3)), (22, (.ifCond .ne 6, 3)), (25, (.bipush (-2), 2)), (27, (.ireturn, 1)), (28, (.aload_n 0, 1)), (29, (.getfield 36, 3)), (32, (.aload_n 0, 1)), (33, (.getfield 26, 3)), (36, (.iload_n 1, 1)), (37, (.invokevirtual 146, 3)), (40, (.istore_n 2, 1)), (41, (.aload_n 0, 1)), (42, (.getfield 46, 3)), (45, (.aload_n 0, 1)), (46, (.getfield 36, 3)), (49, (.invokevirtual 160, 3)), (52, (.aload_n 0, 1)), (53, (.getfield 36, 3)), (56, (.aload_n 0, 1)), (57, (.getfield 26, 3)), (60, (.iload_n 1, 1)), (61, (.invokevirtual 171, 3)), (64, (.iload_n 2, 1)), (65, (.ireturn, 1))]
theorem k_F_buyBack : i_F_buyBack.all (fun q => decide (decode b_F_buyBack q.1 = .ok q.2)) = true := by decide +kernel

set_option maxHeartbeats 1000000 in
set_option maxRecDepth 20000 in
theorem c_F_buyBack (l : Launch) (G : GE) (σ : Wd) (pl sp : Nat) (π : PL) (x : ST) (us ks : List ST) (lk : List (Int × (Int × Int))) (tx : List Int) (j : Int) (hC : CR σ pl sp π x us ks lk tx) (hV : VK π x us ks j) (hj : j ≤ 100) (t : Int) (ht : inR t) : Ct l G y_F_buyBack b_F_buyBack 3 (some (.int)) 4 87 [vR 0, vI t] σ (Rt (some (vI (o_buy π x us t).1)) (fun σ' => CR σ' pl sp π (o_buy π x us t).2.1 (o_buy π x us t).2.2 ks lk tx ∧ Fc σ σ')) := by
  refine Ct.of cm_F_buyBack (Nat.le_of_ble_eq_true rfl) ?_
  intro X hXl hXG hXN hRm C E
  subst hXl; subst hXG
  have ⟨ht_1, ht_2⟩ := ht
  show V X 0 [some (vR 0), some (vI t), none] [] σ
  refine V_R (fun hR => ?_)
  obtain ⟨hF, hsp0, hsp, hne, hx, hU, hK, hl, hT⟩ := id hC
  obtain ⟨ok, xk, usk, ksk, ks2⟩ := id hV
  have hF0 := hF
  obtain ⟨hm_pl, hπ⟩ := hF
  have hπ0 := hπ
  obtain ⟨hpl, e0, e2, e7, e10, eT, eX⟩ := hπ
  obtain ⟨hpl_1, hpl_2, hpl_3, hpl_4, hpl_5, hpl_6⟩ := kd_P hpl
  have ⟨k1, k2, k3, k4, k5, k6, kT, kX⟩ := ok
  have hx0 := hx
  obtain ⟨hs, f0, f1, fQ, fT⟩ := hx
  simp only [Nat.reduceAdd] at fQ fT
  have ⟨x1, x2, x3, x4, xQ, xT⟩ := xk
  have p512 := kd5 hpl
  have s512 := kd5 hsp
  refine V_aload_n (pc := 0) C (dk k_F_buyBack 0 rfl) rfl ?_
  refine V_iload_n (pc := 1) C (dk k_F_buyBack 1 rfl) rfl ?_
  refine V_callV (pc := 2) C (dk k_F_buyBack 2 rfl) lk_F_128 cm_F_isThing vm_F_isThing (c_F_isThing _ _ _ pl π t hF0 ok ht) kq_0 rfl rfl rfl (Nat.le_of_ble_eq_true rfl) (Rm.mono hRm (by decide) (by decide)) ?_
  refine V_ifneB (pc := 5) C (dk k_F_buyBack 3 rfl) 10 rfl (fun h1 => ?_) (fun h1 => ?_)
  · skip
    refine V_aload_n (pc := 10) C (dk k_F_buyBack 6 rfl) rfl ?_
    refine V_getr (pc := 11) (o2 := 19) C (dk k_F_buyBack 7 rfl) fl_F_36 kq_0 (by decide) rfl (by decide) rfl ?_
    refine V_aload_n (pc := 14) C (dk k_F_buyBack 8 rfl) rfl ?_
    refine V_getm (pc := 15) (o2 := pl) C (dk k_F_buyBack 9 rfl) fl_F_26 kq_0 (by decide) rfl hm_pl ?_
    refine V_iload_n (pc := 18) C (dk k_F_buyBack 10 rfl) rfl ?_
    refine V_callV (pc := 19) C (dk k_F_buyBack 11 rfl) lk_F_168 cm_S_canBuyBack vm_S_canBuyBack (c_S_canBuyBack _ _ _ 19 pl π x j t hπ0 ok hx0 xk (by omega) (by omega) (by omega)) kq_19 rfl rfl rfl (Nat.le_of_ble_eq_true rfl) (Rm.mono hRm (by decide) (by decide)) ?_
    refine V_ifneB (pc := 22) C (dk k_F_buyBack 12 rfl) 28 rfl (fun h2 => ?_) (fun h2 => ?_)
    · skip
      refine V_aload_n (pc := 28) C (dk k_F_buyBack 15 rfl) rfl ?_
      refine V_getr (pc := 29) (o2 := 19) C (dk k_F_buyBack 16 rfl) fl_F_36 kq_0 (by decide) rfl (by decide) rfl ?_
      refine V_aload_n (pc := 32) C (dk k_F_buyBack 17 rfl) rfl ?_
      refine V_getm (pc := 33) (o2 := pl) C (dk k_F_buyBack 18 rfl) fl_F_26 kq_0 (by decide) rfl hm_pl ?_
      refine V_iload_n (pc := 36) C (dk k_F_buyBack 19 rfl) rfl ?_
      refine V_callV (pc := 37) C (dk k_F_buyBack 20 rfl) lk_F_146 cm_S_price vm_S_price (c_S_price _ _ _ 19 pl π x j t hπ0 ok hx0 xk (by omega) (by omega) (by omega)) kq_19 rfl rfl rfl (Nat.le_of_ble_eq_true rfl) (Rm.mono hRm (by decide) (by decide)) ?_
      refine V_istore_n (pc := 40) C (dk k_F_buyBack 21 rfl) (by rw [hXN]; decide) ?_
      dsimp only [lst, lstL, lz, kill, Fin.val, Nat.reduceAdd]
      refine V_aload_n (pc := 41) C (dk k_F_buyBack 22 rfl) rfl ?_
      refine V_getr (pc := 42) (o2 := 29) C (dk k_F_buyBack 23 rfl) fl_F_46 kq_0 (by decide) rfl (by decide) rfl ?_
      refine V_aload_n (pc := 45) C (dk k_F_buyBack 24 rfl) rfl ?_
      refine V_getr (pc := 46) (o2 := 19) C (dk k_F_buyBack 25 rfl) fl_F_36 kq_0 (by decide) rfl (by decide) rfl ?_
      refine V_callV0r (pc := 49) C (dk k_F_buyBack 26 rfl) lk_F_160 cm_M_push vm_M_push (c_M_push _ _ _ 29 19 π x us ok hU hx0 (by omega)) kq_29 rfl rfl rfl (Nat.le_of_ble_eq_true rfl) (Rm.mono hRm (by decide) (by decide)) (fun τ1 hq1 => ?_)
      refine V_R (fun hR => ?_)
      have g : ∀ k, (k < 29 ∨ 71 ≤ k) → τ1 k = σ k := fun k a => hq1.2 k (by omega)
      have hm2 : (τ1 0 2).toNat = pl := by rw [g 0 (by omega)]; exact hm_pl
      refine V_aload_n (pc := 52) C (dk k_F_buyBack 27 rfl) rfl ?_
      refine V_getr (pc := 53) (o2 := 19) C (dk k_F_buyBack 28 rfl) fl_F_36 kq_0 (by decide) rfl (by decide) rfl ?_
      refine V_aload_n (pc := 56) C (dk k_F_buyBack 29 rfl) rfl ?_
      refine V_getm (pc := 57) (o2 := pl) C (dk k_F_buyBack 30 rfl) fl_F_26 kq_0 (by decide) rfl hm2 ?_
      refine V_iload_n (pc := 60) C (dk k_F_buyBack 31 rfl) rfl ?_
      refine V_callV0r (pc := 61) C (dk k_F_buyBack 32 rfl) lk_F_171 cm_S_moveToPerson vm_S_moveToPerson (c_S_moveToPerson _ _ _ 19 pl π x j t (hπ0.fr (fun k a b => g k (by omega))) ok (hx0.fr (fun k a b => g k (by omega))) xk (by omega) (by omega) (by omega) (by omega)) kq_19 rfl rfl rfl (Nat.le_of_ble_eq_true rfl) (Rm.mono hRm (by decide) (by decide)) (fun τ2 hq2 => ?_)
      refine V_R (fun hR => ?_)
      refine V_iload_n (pc := 64) C (dk k_F_buyBack 33 rfl) rfl ?_
      refine V_iret (pc := 65) C E (dk k_F_buyBack 34 rfl) ?_
      rw [show o_buy π x us t = (prc π x t, (buyX π x t, (x :: us).take 8)) by unfold o_buy; rw [if_pos (by omega), if_pos (by assumption)]]
      have f : ∀ k, ¬ (19 ≤ k ∧ k < 24) → ¬ (29 ≤ k ∧ k < 71) → τ2 k = σ k := fun k a b => (hq2.2 k (by omega)).trans (g k (by omega))
      exact ⟨rfl, hC.mk2 (fun k a => f k (by omega) (by omega)) hq2.1 (hq1.1.fr (fun k a b => hq2.2 k (by omega))) (hK.fr (fun k a b => f k (by omega) (by omega))) (hl.fr (fun k a b => f k (by omega) (by omega))) (hT.fr (f 1 (by omega) (by omega)) (f 2 (by omega) (by omega))), fun k a => f k (by omega) (by omega)⟩
    · skip
      refine V_bipush (pc := 25) (n' := (-2)) C (dk k_F_buyBack 13 rfl) rfl ?_
      refine V_iret (pc := 27) C E (dk k_F_buyBack 14 rfl) ?_
      rw [show o_buy π x us t = (-2, (x, us)) by unfold o_buy; rw [if_pos (by omega), if_neg (by assumption)]]
      exact ⟨rfl, hC, Fc.rf σ⟩
  · skip
    refine V_iconst (pc := 8) C (dk k_F_buyBack 4 rfl) rfl ?_
    refine V_iret (pc := 9) C E (dk k_F_buyBack 5 rfl) ?_
    rw [show o_buy π x us t = (-1, (x, us)) from if_neg (by omega)]
    exact ⟨rfl, hC, Fc.rf σ⟩


def i_F_see : List (Nat × (Instr × Nat)) := [(0, (.aload_n 0, 1)), (1, (.iload_n 1, 1)), (2, (.invokevirtual 128, 3)), (5, (.ifCond .eq 23, 3)), (8, (.iload_n 2, 1)), (9, (.iconst 0, 1)), (10, (.bipush 20, 2)), (12, (.invokestatic 98, 3)), (15, (.ifCond .eq 13, 3)), (18, (.iload_n 3, 1)), (19, (.iconst 0, 1)), (20, (.bipush 99, 2)), (22, (.invokestatic 98, 3)), (25, (.ifCond .ne 5, 3)), (28, (.iconst (-1), 1)), (29, (.ireturn, 1)), (30, (.aload_n 0, 1)), (31, (.getfield 56, 3)), (34, (.iload_n 1, 1)), (35, (.iload_n 2, 1)), (36, (.iload_n 3, 1)), (37, (.invokevirtual 233, 3)), (40, (.ifCond .eq 13, 3)), (43, (.aload_n 0, 1)), (44, (.getfield 56, 3)), (47, (.getfield 235, 3)), (50, (.goto 5, 3)), (53, (.bipush (-3), 2)), (55, (.ireturn, 1))]
theorem k_F_see : i_F_see.all (fun q => decide (decode b_F_see q.1 = .ok q.2)) = true := by decide +kernel

set_option maxHeartbeats 1000000 in
set_option maxRecDepth 20000 in
theorem c_F_see (l : Launch) (G : GE) (σ : Wd) (pl sp : Nat) (π : PL) (x : ST) (us ks : List ST) (lk : List (Int × (Int × Int))) (tx : List Int) (j : Int) (hC : CR σ pl sp π x us ks lk tx) (hV : VK π x us ks j) (hj : j ≤ 100) (t n v : Int) (ht : inR t) (hn : inR n) (hv : inR v) : Ct l G y_F_see b_F_see 4 (some (.int)) 2 45 [vR 0, vI t, vI n, vI v] σ (Rt (some (vI (o_see π lk t n v).1)) (fun σ' => CR σ' pl sp π x us ks (o_see π lk t n v).2 tx ∧ Fc σ σ')) := by
  refine Ct.of cm_F_see (Nat.le_of_ble_eq_true rfl) ?_
  intro X hXl hXG hXN hRm C E
  subst hXl; subst hXG
  have ⟨ht_1, ht_2⟩ := ht
  have ⟨hn_1, hn_2⟩ := hn
  have ⟨hv_1, hv_2⟩ := hv
  show V X 0 [some (vR 0), some (vI t), some (vI n), some (vI v)] [] σ
  refine V_R (fun hR => ?_)
  obtain ⟨hF, hsp0, hsp, hne, hx, hU, hK, hl, hT⟩ := id hC
  obtain ⟨ok, xk, usk, ksk, ks2⟩ := id hV
  have hF0 := hF
  obtain ⟨hm_pl, hπ⟩ := hF
  have hπ0 := hπ
  obtain ⟨hpl, e0, e2, e7, e10, eT, eX⟩ := hπ
  obtain ⟨hpl_1, hpl_2, hpl_3, hpl_4, hpl_5, hpl_6⟩ := kd_P hpl
  have ⟨k1, k2, k3, k4, k5, k6, kT, kX⟩ := ok
  have hx0 := hx
  obtain ⟨hs, f0, f1, fQ, fT⟩ := hx
  simp only [Nat.reduceAdd] at fQ fT
  have ⟨x1, x2, x3, x4, xQ, xT⟩ := xk
  have p512 := kd5 hpl
  have s512 := kd5 hsp
  obtain ⟨l1, l2, l3⟩ := id hl
  refine V_aload_n (pc := 0) C (dk k_F_see 0 rfl) rfl ?_
  refine V_iload_n (pc := 1) C (dk k_F_see 1 rfl) rfl ?_
  refine V_callV (pc := 2) C (dk k_F_see 2 rfl) lk_F_128 cm_F_isThing vm_F_isThing (c_F_isThing _ _ _ pl π t hF0 ok ht) kq_0 rfl rfl rfl (Nat.le_of_ble_eq_true rfl) (Rm.mono hRm (by decide) (by decide)) ?_
  refine V_ifeqB (pc := 5) C (dk k_F_see 3 rfl) 28 rfl (fun h1 => ?_) (fun h1 => ?_)
  · skip
    refine V_iconst (pc := 28) C (dk k_F_see 14 rfl) rfl ?_
    refine V_iret (pc := 29) C E (dk k_F_see 15 rfl) ?_
    rw [show o_see π lk t n v = (-1, lk) from if_neg (by omega)]
    exact ⟨rfl, hC, Fc.rf σ⟩
  · skip
    refine V_iload_n (pc := 8) C (dk k_F_see 4 rfl) rfl ?_
    refine V_iconst (pc := 9) C (dk k_F_see 5 rfl) rfl ?_
    refine V_bipush (pc := 10) (n' := 20) C (dk k_F_see 6 rfl) rfl ?_
    refine V_callS (pc := 12) C (dk k_F_see 7 rfl) lk_F_98 cm_F_within sm_F_within (c_F_within _ _ _ n 0 20 hn ⟨by decide, by decide⟩ ⟨by decide, by decide⟩) rfl rfl (Nat.le_of_ble_eq_true rfl) (Rm.mono hRm (by decide) (by decide)) ?_
    refine V_ifeqB (pc := 15) C (dk k_F_see 8 rfl) 28 rfl (fun h2 => ?_) (fun h2 => ?_)
    · skip
      refine V_iconst (pc := 28) C (dk k_F_see 14 rfl) rfl ?_
      refine V_iret (pc := 29) C E (dk k_F_see 15 rfl) ?_
      rw [show o_see π lk t n v = (-1, lk) from if_neg (by omega)]
      exact ⟨rfl, hC, Fc.rf σ⟩
    · skip
      refine V_iload_n (pc := 18) C (dk k_F_see 9 rfl) rfl ?_
      refine V_iconst (pc := 19) C (dk k_F_see 10 rfl) rfl ?_
      refine V_bipush (pc := 20) (n' := 99) C (dk k_F_see 11 rfl) rfl ?_
      refine V_callS (pc := 22) C (dk k_F_see 12 rfl) lk_F_98 cm_F_within sm_F_within (c_F_within _ _ _ v 0 99 hv ⟨by decide, by decide⟩ ⟨by decide, by decide⟩) rfl rfl (Nat.le_of_ble_eq_true rfl) (Rm.mono hRm (by decide) (by decide)) ?_
      refine V_ifneB (pc := 25) C (dk k_F_see 13 rfl) 30 rfl (fun h3 => ?_) (fun h3 => ?_)
      · skip
        refine V_aload_n (pc := 30) C (dk k_F_see 16 rfl) rfl ?_
        refine V_getr (pc := 31) (o2 := 113) C (dk k_F_see 17 rfl) fl_F_56 kq_0 (by decide) rfl (by decide) rfl ?_
        refine V_iload_n (pc := 34) C (dk k_F_see 18 rfl) rfl ?_
        refine V_iload_n (pc := 35) C (dk k_F_see 19 rfl) rfl ?_
        refine V_iload_n (pc := 36) C (dk k_F_see 20 rfl) rfl ?_
        refine V_callV (pc := 37) C (dk k_F_see 21 rfl) lk_F_233 cm_K_add vm_K_add (c_K_add _ _ _ t n v ht hn hv (by omega) (by omega)) kq_113 rfl rfl rfl (Nat.le_of_ble_eq_true rfl) (Rm.mono hRm (by decide) (by decide)) ?_
        refine V_ifeqB (pc := 40) C (dk k_F_see 22 rfl) 53 rfl (fun h4 => ?_) (fun h4 => ?_)
        · skip
          rw [if_neg (by assumption)]
          refine V_R (fun hR => ?_)
          refine V_bipush (pc := 53) (n' := (-3)) C (dk k_F_see 27 rfl) rfl ?_
          refine V_iret (pc := 55) C E (dk k_F_see 28 rfl) ?_
          first | (rw [show o_see π lk t n v = (-3, lk) by unfold o_see; rw [if_pos (by omega), if_neg (by omega)]]; exact ⟨rfl, hC, Fc.rf σ⟩) | (rw [show o_see π lk t n v = ((lk.length : Int) + 1, lk ++ [(t, (n, v))]) by unfold o_see; rw [if_pos (by omega), if_pos (by omega)]]; have f : ∀ k, (k < 113 ∨ 117 ≤ k) → up (up (up (up σ 114 (σ 113 3) t) 115 (σ 113 3) n) 116 (σ 113 3) v) 113 3 (σ 113 3 + 1) k = σ k := (fun k a => by simp (disch := omega) only [up_row]); exact ⟨by rw [up_at, l1], hC.mk2 (fun k a => f k (by omega)) (hx0.fr (fun k a b => f k (by omega))) (hU.fr (fun k a b => f k (by omega))) (hK.fr (fun k a b => f k (by omega))) (hl.add (by omega) (by omega) (by omega) (by omega) (by omega)) (hT.fr (f 1 (by omega)) (f 2 (by omega))), fun k a => f k (by omega)⟩)
        · skip
          rw [if_pos (by assumption)]
          refine V_R (fun hR => ?_)
          refine V_aload_n (pc := 43) C (dk k_F_see 23 rfl) rfl ?_
          refine V_getr (pc := 44) (o2 := 113) C (dk k_F_see 24 rfl) fl_F_56 kq_0 (by decide) rfl (by decide) rfl ?_
          refine V_geti (pc := 47) (ji := 3) C (dk k_F_see 25 rfl) fl_F_235 kq_113 (by decide) rfl rfl ?_
          refine V_goto (pc := 50) C (dk k_F_see 26 rfl) 55 rfl ?_
          refine V_iret (pc := 55) C E (dk k_F_see 28 rfl) ?_
          first | (rw [show o_see π lk t n v = (-3, lk) by unfold o_see; rw [if_pos (by omega), if_neg (by omega)]]; exact ⟨rfl, hC, Fc.rf σ⟩) | (rw [show o_see π lk t n v = ((lk.length : Int) + 1, lk ++ [(t, (n, v))]) by unfold o_see; rw [if_pos (by omega), if_pos (by omega)]]; have f : ∀ k, (k < 113 ∨ 117 ≤ k) → up (up (up (up σ 114 (σ 113 3) t) 115 (σ 113 3) n) 116 (σ 113 3) v) 113 3 (σ 113 3 + 1) k = σ k := (fun k a => by simp (disch := omega) only [up_row]); exact ⟨by rw [up_at, l1], hC.mk2 (fun k a => f k (by omega)) (hx0.fr (fun k a b => f k (by omega))) (hU.fr (fun k a b => f k (by omega))) (hK.fr (fun k a b => f k (by omega))) (hl.add (by omega) (by omega) (by omega) (by omega) (by omega)) (hT.fr (f 1 (by omega)) (f 2 (by omega))), fun k a => f k (by omega)⟩)
      · skip
        refine V_iconst (pc := 28) C (dk k_F_see 14 rfl) rfl ?_
        refine V_iret (pc := 29) C E (dk k_F_see 15 rfl) ?_
        rw [show o_see π lk t n v = (-1, lk) from if_neg (by omega)]
        exact ⟨rfl, hC, Fc.rf σ⟩

def i_F_forget : List (Nat × (Instr × Nat)) := [(0, (.aload_n 0, 1)), (1, (.getfield 56, 3)), (4, (.getfield 235, 3)), (7, (.istore_n 1, 1)), (8, (.aload_n 0, 1)), (9, (.getfield 56, 3)), (12, (.iconst 0, 1)), (13, (.putfield 235, 3)), (16, (.iload_n 1, 1)), (17, (.ireturn, 1))]
theorem k_F_forget : i_F_forget.all (fun q => decide (decode b_F_forget q.1 = .ok q.2)) = true := by decide +kernel

set_option maxHeartbeats 1000000 in
set_option maxRecDepth 20000 in
theorem c_F_forget (l : Launch) (G : GE) (σ : Wd) (pl sp : Nat) (π : PL) (x : ST) (us ks : List ST) (lk : List (Int × (Int × Int))) (tx : List Int) (j : Int) (hC : CR σ pl sp π x us ks lk tx) (hV : VK π x us ks j) (hj : j ≤ 100) : Ct l G y_F_forget b_F_forget 2 (some (.int)) 0 0 [vR 0] σ (Rt (some (vI lk.length)) (fun σ' => CR σ' pl sp π x us ks [] tx ∧ Fc σ σ')) := by
  refine Ct.of cm_F_forget (Nat.le_of_ble_eq_true rfl) ?_
  intro X hXl hXG hXN hRm C E
  subst hXl; subst hXG
  show V X 0 [some (vR 0), none] [] σ
  refine V_R (fun hR => ?_)
  obtain ⟨hF, hsp0, hsp, hne, hx, hU, hK, hl, hT⟩ := id hC
  obtain ⟨ok, xk, usk, ksk, ks2⟩ := id hV
  have hF0 := hF
  obtain ⟨hm_pl, hπ⟩ := hF
  have hπ0 := hπ
  obtain ⟨hpl, e0, e2, e7, e10, eT, eX⟩ := hπ
  obtain ⟨hpl_1, hpl_2, hpl_3, hpl_4, hpl_5, hpl_6⟩ := kd_P hpl
  have ⟨k1, k2, k3, k4, k5, k6, kT, kX⟩ := ok
  have hx0 := hx
  obtain ⟨hs, f0, f1, fQ, fT⟩ := hx
  simp only [Nat.reduceAdd] at fQ fT
  have ⟨x1, x2, x3, x4, xQ, xT⟩ := xk
  have p512 := kd5 hpl
  have s512 := kd5 hsp
  obtain ⟨l1, l2, l3⟩ := id hl
  refine V_aload_n (pc := 0) C (dk k_F_forget 0 rfl) rfl ?_
  refine V_getr (pc := 1) (o2 := 113) C (dk k_F_forget 1 rfl) fl_F_56 kq_0 (by decide) rfl (by decide) rfl ?_
  refine V_geti (pc := 4) (ji := 3) C (dk k_F_forget 2 rfl) fl_F_235 kq_113 (by decide) rfl rfl ?_
  refine V_istore_n (pc := 7) C (dk k_F_forget 3 rfl) (by rw [hXN]; decide) ?_
  dsimp only [lst, lstL, lz, kill, Fin.val, Nat.reduceAdd]
  refine V_aload_n (pc := 8) C (dk k_F_forget 4 rfl) rfl ?_
  refine V_getr (pc := 9) (o2 := 113) C (dk k_F_forget 5 rfl) fl_F_56 kq_0 (by decide) rfl (by decide) rfl ?_
  refine V_iconst (pc := 12) C (dk k_F_forget 6 rfl) rfl ?_
  refine V_puti (pc := 13) (ji := 3) C (dk k_F_forget 7 rfl) fl_F_235 fw_3_3 kq_113 (by decide) rfl rfl R0 ?_
  refine V_R (fun hR => ?_)
  refine V_iload_n (pc := 16) C (dk k_F_forget 8 rfl) rfl ?_
  refine V_iret (pc := 17) C E (dk k_F_forget 9 rfl) ?_
  have f : ∀ k, k ≠ 113 → up σ 113 3 0 k = σ k := fun k a => up_row _ _ _ a
  exact ⟨by rw [l1], hC.mk2 (fun k a => f k (by omega)) (hx0.fr (fun k a b => f k (by omega))) (hU.fr (fun k a b => f k (by omega))) (hK.fr (fun k a b => f k (by omega))) ⟨by rw [up_at]; rfl, by simp, fun k c h => by simp at h⟩ (hT.fr (f 1 (by omega)) (f 2 (by omega))), fun k a => f k (by omega)⟩

def i_F_behind : List (Nat × (Instr × Nat)) := [(0, (.iload_n 1, 1)), (1, (.iconst 0, 1)), (2, (.bipush 40, 2)), (4, (.invokestatic 98, 3)), (7, (.ifCond .eq 11, 3)), (10, (.aload_n 0, 1)), (11, (.iload_n 2, 1)), (12, (.invokevirtual 128, 3)), (15, (.ifCond .ne 5, 3)), (18, (.iconst (-1), 1)), (19, (.ireturn, 1)), (20, (.aload_n 0, 1)), (21, (.getfield 36, 3)), (24, (.getfield 143, 3)), (27, (.iload_n 2, 1)), (28, (.invokestatic 117, 3)), (31, (.iconst 1, 1)), (32, (.if_icmp .eq 15, 3)), (35, (.aload_n 0, 1)), (36, (.getfield 36, 3)), (39, (.getfield 137, 3)), (42, (.iload_n 2, 1)), (43, (.invokestatic 117, 3)), (46, (.ireturn, 1)), (47, (.aload_n 0, 1)), (48, (.iload_n 2, 1)), (49, (.aload_n 0, 1)), (50, (.getfield 26, 3)), (53, (.getfield 134, 3)), (56, (.iload_n 2, 1)), (57, (.invokestatic 117, 3)), (60, (.iload_n 1, 1)), (61, (.invokevirtual 185, 3)), (64, (.ireturn, 1))]
theorem k_F_behind : i_F_behind.all (fun q => decide (decode b_F_behind q.1 = .ok q.2)) = true := by decide +kernel

set_option maxHeartbeats 1000000 in
set_option maxRecDepth 20000 in
theorem c_F_behind (l : Launch) (G : GE) (σ : Wd) (pl sp : Nat) (π : PL) (x : ST) (us ks : List ST) (lk : List (Int × (Int × Int))) (tx : List Int) (j : Int) (hC : CR σ pl sp π x us ks lk tx) (hV : VK π x us ks j) (hj : j ≤ 100) (n t : Int) (hn : inR n) (ht : inR t) : Ct l G y_F_behind b_F_behind 3 (some (.int)) 3 73 [vR 0, vI n, vI t] σ (Dt (some (vI (o_behind π x n t))) σ) := by
  refine Ct.of cm_F_behind (Nat.le_of_ble_eq_true rfl) ?_
  intro X hXl hXG hXN hRm C E
  subst hXl; subst hXG
  have ⟨hn_1, hn_2⟩ := hn
  have ⟨ht_1, ht_2⟩ := ht
  show V X 0 [some (vR 0), some (vI n), some (vI t)] [] σ
  refine V_R (fun hR => ?_)
  obtain ⟨hF, hsp0, hsp, hne, hx, hU, hK, hl, hT⟩ := id hC
  obtain ⟨ok, xk, usk, ksk, ks2⟩ := id hV
  have hF0 := hF
  obtain ⟨hm_pl, hπ⟩ := hF
  have hπ0 := hπ
  obtain ⟨hpl, e0, e2, e7, e10, eT, eX⟩ := hπ
  obtain ⟨hpl_1, hpl_2, hpl_3, hpl_4, hpl_5, hpl_6⟩ := kd_P hpl
  have ⟨k1, k2, k3, k4, k5, k6, kT, kX⟩ := ok
  have hx0 := hx
  obtain ⟨hs, f0, f1, fQ, fT⟩ := hx
  simp only [Nat.reduceAdd] at fQ fT
  have ⟨x1, x2, x3, x4, xQ, xT⟩ := xk
  have p512 := kd5 hpl
  have s512 := kd5 hsp
  refine V_iload_n (pc := 0) C (dk k_F_behind 0 rfl) rfl ?_
  refine V_iconst (pc := 1) C (dk k_F_behind 1 rfl) rfl ?_
  refine V_bipush (pc := 2) (n' := 40) C (dk k_F_behind 2 rfl) rfl ?_
  refine V_callS (pc := 4) C (dk k_F_behind 3 rfl) lk_F_98 cm_F_within sm_F_within (c_F_within _ _ _ n 0 40 hn ⟨by decide, by decide⟩ ⟨by decide, by decide⟩) rfl rfl (Nat.le_of_ble_eq_true rfl) (Rm.mono hRm (by decide) (by decide)) ?_
  refine V_ifeqB (pc := 7) C (dk k_F_behind 4 rfl) 18 rfl (fun h1 => ?_) (fun h1 => ?_)
  · skip
    refine V_iconst (pc := 18) C (dk k_F_behind 9 rfl) rfl ?_
    refine V_iret (pc := 19) C E (dk k_F_behind 10 rfl) ?_
    exact ⟨by unfold o_behind; rw [if_neg (by omega)], rfl⟩
  · skip
    refine V_aload_n (pc := 10) C (dk k_F_behind 5 rfl) rfl ?_
    refine V_iload_n (pc := 11) C (dk k_F_behind 6 rfl) rfl ?_
    refine V_callV (pc := 12) C (dk k_F_behind 7 rfl) lk_F_128 cm_F_isThing vm_F_isThing (c_F_isThing _ _ _ pl π t hF0 ok ht) kq_0 rfl rfl rfl (Nat.le_of_ble_eq_true rfl) (Rm.mono hRm (by decide) (by decide)) ?_
    refine V_ifneB (pc := 15) C (dk k_F_behind 8 rfl) 20 rfl (fun h2 => ?_) (fun h2 => ?_)
    · skip
      obtain ⟨gN, gP⟩ := fT t (by omega) (by omega)
      obtain ⟨gO, gK, gU⟩ := eT t (by omega) (by omega)
      obtain ⟨kO0, kO1, kK0, kK1, kU0, kU1⟩ := kT t (by omega) (by omega)
      refine V_aload_n (pc := 20) C (dk k_F_behind 11 rfl) rfl ?_
      refine V_getr (pc := 21) (o2 := 19) C (dk k_F_behind 12 rfl) fl_F_36 kq_0 (by decide) rfl (by decide) rfl ?_
      refine V_getr (pc := 24) (o2 := 23) C (dk k_F_behind 13 rfl) fl_F_143 kq_19 (by decide) rfl (by decide) rfl ?_
      refine V_iload_n (pc := 27) C (dk k_F_behind 14 rfl) rfl ?_
      refine V_callS (pc := 28) C (dk k_F_behind 15 rfl) lk_F_117 cm_F_at sm_F_at (c_at _ _ _ (23) 8 t kq_23 (by decide) (by omega) (by omega)) rfl rfl (Nat.le_of_ble_eq_true rfl) (Rm.mono hRm (by decide) (by decide)) ?_
      refine V_iconst (pc := 31) C (dk k_F_behind 16 rfl) rfl ?_
      refine V_icmpeq (pc := 32) C (dk k_F_behind 17 rfl) 47 rfl (by first | exact hR _ _ | with_reducible assumption | exact ⟨by omega, by omega⟩) (by first | exact hR _ _ | with_reducible assumption | exact ⟨by omega, by omega⟩) (fun h3 => ?_) (fun h3 => ?_)
      · skip
        refine V_aload_n (pc := 47) C (dk k_F_behind 24 rfl) rfl ?_
        refine V_iload_n (pc := 48) C (dk k_F_behind 25 rfl) rfl ?_
        refine V_aload_n (pc := 49) C (dk k_F_behind 26 rfl) rfl ?_
        refine V_getm (pc := 50) (o2 := pl) C (dk k_F_behind 27 rfl) fl_F_26 kq_0 (by decide) rfl hm_pl ?_
        refine V_getr (pc := 53) (o2 := pl + 3) C (dk k_F_behind 28 rfl) fl_F_134 hpl (by decide) rfl (by decide) rfl ?_
        refine V_iload_n (pc := 56) C (dk k_F_behind 29 rfl) rfl ?_
        refine V_callS (pc := 57) C (dk k_F_behind 30 rfl) lk_F_117 cm_F_at sm_F_at (c_at _ _ _ (pl + 3) 8 t hpl_3 (by decide) (by omega) (by omega)) rfl rfl (Nat.le_of_ble_eq_true rfl) (Rm.mono hRm (by decide) (by decide)) ?_
        rw [gK]
        refine V_iload_n (pc := 60) C (dk k_F_behind 31 rfl) rfl ?_
        refine V_callV (pc := 61) C (dk k_F_behind 32 rfl) lk_F_185 cm_F_nearInCellar vm_F_nearInCellar (c_F_nearInCellar _ _ _ pl π x j t (pK π t) n hF0 ok hx0 xk (by omega) (by omega) (by omega) ⟨by omega, by omega⟩ (by omega) (by omega)) kq_0 rfl rfl rfl (Nat.le_of_ble_eq_true rfl) (Rm.mono hRm (by decide) (by decide)) ?_
        refine V_iret (pc := 64) C E (dk k_F_behind 33 rfl) ?_
        exact ⟨by unfold o_behind; rw [if_pos (by omega), if_pos (by omega)], rfl⟩
      · skip
        refine V_aload_n (pc := 35) C (dk k_F_behind 18 rfl) rfl ?_
        refine V_getr (pc := 36) (o2 := 19) C (dk k_F_behind 19 rfl) fl_F_36 kq_0 (by decide) rfl (by decide) rfl ?_
        refine V_getr (pc := 39) (o2 := 22) C (dk k_F_behind 20 rfl) fl_F_137 kq_19 (by decide) rfl (by decide) rfl ?_
        refine V_iload_n (pc := 42) C (dk k_F_behind 21 rfl) rfl ?_
        refine V_callS (pc := 43) C (dk k_F_behind 22 rfl) lk_F_117 cm_F_at sm_F_at (c_at _ _ _ (22) 8 t kq_22 (by decide) (by omega) (by omega)) rfl rfl (Nat.le_of_ble_eq_true rfl) (Rm.mono hRm (by decide) (by decide)) ?_
        refine V_iret (pc := 46) C E (dk k_F_behind 23 rfl) ?_
        exact ⟨by unfold o_behind; rw [if_pos (by omega), if_neg (by omega), gN], rfl⟩
    · skip
      refine V_iconst (pc := 18) C (dk k_F_behind 9 rfl) rfl ?_
      refine V_iret (pc := 19) C E (dk k_F_behind 10 rfl) ?_
      exact ⟨by unfold o_behind; rw [if_neg (by omega)], rfl⟩

def i_F_count : List (Nat × (Instr × Nat)) := [(0, (.iload_n 1, 1)), (1, (.tableswitch 173 0 11 #[63, 71, 79, 87, 95, 103, 116, 129, 141, 149, 157, 165], 63)), (64, (.aload_n 0, 1)), (65, (.getfield 26, 3)), (68, (.getfield 106, 3)), (71, (.ireturn, 1)), (72, (.aload_n 0, 1)), (73, (.getfield 26, 3)), (76, (.getfield 196, 3)), (79, (.ireturn, 1)), (80, (.aload_n 0, 1)), (81, (.getfield 36, 3)), (84, (.getfield 206, 3)), (87, (.ireturn, 1)), (88, (.aload_n 0, 1)), (89, (.getfield 26, 3)), (92, (.getfield 257, 3)), (95, (.ireturn, 1)), (96, (.aload_n 0, 1)), (97, (.getfield 36, 3)), (100, (.getfield 149, 3)), (103, (.ireturn, 1)), (104, (.aload_n 0, 1)), (105, (.getfield 36, 3)), (108, (.aload_n 0, 1)), (109, (.getfield 26, 3)), (112, (.iconst 1, 1)), (113, (.invokevirtual 260, 3)), (116, (.ireturn, 1)), (117, (.aload_n 0, 1)), (118, (.getfield 36, 3)), (121, (.aload_n 0, 1)), (122, (.getfield 26, 3)), (125, (.iconst 2, 1)), (126, (.invokevirtual 260, 3)), (129, (.ireturn, 1)), (130, (.aload_n 0, 1)), (131, (.getfield 36, 3)), (134, (.aload_n 0, 1)), (135, (.getfield 26, 3)), (138, (.invokevirtual 192, 3)), (141, (.ireturn, 1)), (142, (.aload_n 0, 1)), (143, (.getfield 56, 3)), (146, (.getfield 235, 3)), (149, (.ireturn, 1)), (150, (.aload_n 0, 1)), (151, (.getfield 46, 3)), (154, (.getfield 182, 3)), (157, (.ireturn, 1)), (158, (.aload_n 0, 1)), (159, (.getfield 50, 3)), (162, (.getfield 182, 3)), (165, (.ireturn, 1)), (166, (.aload_n 0, 1)), (167, (.getfield 10, 3)), (170, (.getfield 94, 3)), (173, (.ireturn, 1)), (174, (.iconst (-1), 1)), (175, (.ireturn, 1))]
theorem k_F_count : i_F_count.all (fun q => decide (decode b_F_count q.1 = .ok q.2)) = true := by decide +kernel

set_option maxHeartbeats 1000000 in
set_option maxRecDepth 20000 in
theorem c_F_count (l : Launch) (G : GE) (σ : Wd) (pl sp : Nat) (π : PL) (x : ST) (us ks : List ST) (lk : List (Int × (Int × Int))) (tx : List Int) (j : Int) (hC : CR σ pl sp π x us ks lk tx) (hV : VK π x us ks j) (hj : j ≤ 100) (k : Int) (hk : inR k) : Ct l G y_F_count b_F_count 2 (some (.int)) 2 45 [vR 0, vI k] σ (Dt (some (vI (o_count π x us ks lk tx k))) σ) := by
  refine Ct.of cm_F_count (Nat.le_of_ble_eq_true rfl) ?_
  intro X hXl hXG hXN hRm C E
  subst hXl; subst hXG
  have ⟨hk_1, hk_2⟩ := hk
  show V X 0 [some (vR 0), some (vI k)] [] σ
  refine V_R (fun hR => ?_)
  obtain ⟨hF, hsp0, hsp, hne, hx, hU, hK, hl, hT⟩ := id hC
  obtain ⟨ok, xk, usk, ksk, ks2⟩ := id hV
  have hF0 := hF
  obtain ⟨hm_pl, hπ⟩ := hF
  have hπ0 := hπ
  obtain ⟨hpl, e0, e2, e7, e10, eT, eX⟩ := hπ
  obtain ⟨hpl_1, hpl_2, hpl_3, hpl_4, hpl_5, hpl_6⟩ := kd_P hpl
  have ⟨k1, k2, k3, k4, k5, k6, kT, kX⟩ := ok
  have hx0 := hx
  obtain ⟨hs, f0, f1, fQ, fT⟩ := hx
  simp only [Nat.reduceAdd] at fQ fT
  have ⟨x1, x2, x3, x4, xQ, xT⟩ := xk
  have p512 := kd5 hpl
  have s512 := kd5 hsp
  obtain ⟨l1, l2, l3⟩ := id hl
  obtain ⟨t1, t2, t3⟩ := id hT
  obtain ⟨-, -, -, u3, -, -⟩ := id hU
  obtain ⟨-, -, -, w3, -, -⟩ := id hK
  refine V_iload_n (pc := 0) C (dk k_F_count 0 rfl) rfl ?_
  refine V_switch (pc := 1) C (dk k_F_count 1 rfl) (by first | exact hR _ _ | with_reducible assumption | exact ⟨by omega, by omega⟩) (fun h1 tgt ht => ?_) ⟨174, rfl⟩ (fun h1 h1b => ?_)
  · obtain rfl : tgt = 174 := by omega
    refine V_iconst (pc := 174) C (dk k_F_count 58 rfl) rfl ?_
    refine V_iret (pc := 175) C E (dk k_F_count 59 rfl) ?_
    exact ⟨by unfold o_count; rw [if_neg (by omega), if_neg (by omega), if_neg (by omega), if_neg (by omega), if_neg (by omega), if_neg (by omega), if_neg (by omega), if_neg (by omega), if_neg (by omega), if_neg (by omega), if_neg (by omega), if_neg (by omega)], rfl⟩
  · skip
    have h1c : k = 0 ∨ k = 1 ∨ k = 2 ∨ k = 3 ∨ k = 4 ∨ k = 5 ∨ k = 6 ∨ k = 7 ∨ k = 8 ∨ k = 9 ∨ k = 10 ∨ k = 11 := by omega
    rcases h1c with h1d | h1d | h1d | h1d | h1d | h1d | h1d | h1d | h1d | h1d | h1d | h1d
    · refine ⟨63, 64, by rw [h1d]; rfl, rfl, ?_⟩
      refine V_aload_n (pc := 64) C (dk k_F_count 2 rfl) rfl ?_
      refine V_getm (pc := 65) (o2 := pl) C (dk k_F_count 3 rfl) fl_F_26 kq_0 (by decide) rfl hm_pl ?_
      refine V_geti (pc := 68) (ji := 0) C (dk k_F_count 4 rfl) fl_F_106 hpl (by decide) rfl rfl ?_
      refine V_iret (pc := 71) C E (dk k_F_count 5 rfl) ?_
      exact ⟨by unfold o_count; rw [if_pos (by omega), e0], rfl⟩
    · refine ⟨71, 72, by rw [h1d]; rfl, rfl, ?_⟩
      refine V_aload_n (pc := 72) C (dk k_F_count 6 rfl) rfl ?_
      refine V_getm (pc := 73) (o2 := pl) C (dk k_F_count 7 rfl) fl_F_26 kq_0 (by decide) rfl hm_pl ?_
      refine V_geti (pc := 76) (ji := 2) C (dk k_F_count 8 rfl) fl_F_196 hpl (by decide) rfl rfl ?_
      refine V_iret (pc := 79) C E (dk k_F_count 9 rfl) ?_
      exact ⟨by unfold o_count; rw [if_neg (by omega), if_pos (by omega), e2], rfl⟩
    · refine ⟨79, 80, by rw [h1d]; rfl, rfl, ?_⟩
      refine V_aload_n (pc := 80) C (dk k_F_count 10 rfl) rfl ?_
      refine V_getr (pc := 81) (o2 := 19) C (dk k_F_count 11 rfl) fl_F_36 kq_0 (by decide) rfl (by decide) rfl ?_
      refine V_geti (pc := 84) (ji := 1) C (dk k_F_count 12 rfl) fl_F_206 kq_19 (by decide) rfl rfl ?_
      refine V_iret (pc := 87) C E (dk k_F_count 13 rfl) ?_
      exact ⟨by unfold o_count; rw [if_neg (by omega), if_neg (by omega), if_pos (by omega), f1], rfl⟩
    · refine ⟨87, 88, by rw [h1d]; rfl, rfl, ?_⟩
      refine V_aload_n (pc := 88) C (dk k_F_count 14 rfl) rfl ?_
      refine V_getm (pc := 89) (o2 := pl) C (dk k_F_count 15 rfl) fl_F_26 kq_0 (by decide) rfl hm_pl ?_
      refine V_geti (pc := 92) (ji := 10) C (dk k_F_count 16 rfl) fl_F_257 hpl (by decide) rfl rfl ?_
      refine V_iret (pc := 95) C E (dk k_F_count 17 rfl) ?_
      exact ⟨by unfold o_count; rw [if_neg (by omega), if_neg (by omega), if_neg (by omega), if_pos (by omega), e10], rfl⟩
    · refine ⟨95, 96, by rw [h1d]; rfl, rfl, ?_⟩
      refine V_aload_n (pc := 96) C (dk k_F_count 18 rfl) rfl ?_
      refine V_getr (pc := 97) (o2 := 19) C (dk k_F_count 19 rfl) fl_F_36 kq_0 (by decide) rfl (by decide) rfl ?_
      refine V_geti (pc := 100) (ji := 0) C (dk k_F_count 20 rfl) fl_F_149 kq_19 (by decide) rfl rfl ?_
      refine V_iret (pc := 103) C E (dk k_F_count 21 rfl) ?_
      exact ⟨by unfold o_count; rw [if_neg (by omega), if_neg (by omega), if_neg (by omega), if_neg (by omega), if_pos (by omega), f0], rfl⟩
    · refine ⟨103, 104, by rw [h1d]; rfl, rfl, ?_⟩
      refine V_aload_n (pc := 104) C (dk k_F_count 22 rfl) rfl ?_
      refine V_getr (pc := 105) (o2 := 19) C (dk k_F_count 23 rfl) fl_F_36 kq_0 (by decide) rfl (by decide) rfl ?_
      refine V_aload_n (pc := 108) C (dk k_F_count 24 rfl) rfl ?_
      refine V_getm (pc := 109) (o2 := pl) C (dk k_F_count 25 rfl) fl_F_26 kq_0 (by decide) rfl hm_pl ?_
      refine V_iconst (pc := 112) C (dk k_F_count 26 rfl) rfl ?_
      refine V_callV (pc := 113) C (dk k_F_count 27 rfl) lk_F_260 cm_S_howMany vm_S_howMany (c_S_howMany _ _ _ 19 pl π x j hπ0 ok hx0 xk (by omega) 1 ⟨by decide, by decide⟩) kq_19 rfl rfl rfl (Nat.le_of_ble_eq_true rfl) (Rm.mono hRm (by decide) (by decide)) ?_
      refine V_iret (pc := 116) C E (dk k_F_count 28 rfl) ?_
      exact ⟨by unfold o_count; rw [if_neg (by omega), if_neg (by omega), if_neg (by omega), if_neg (by omega), if_neg (by omega), if_pos (by omega)], rfl⟩
    · refine ⟨116, 117, by rw [h1d]; rfl, rfl, ?_⟩
      refine V_aload_n (pc := 117) C (dk k_F_count 29 rfl) rfl ?_
      refine V_getr (pc := 118) (o2 := 19) C (dk k_F_count 30 rfl) fl_F_36 kq_0 (by decide) rfl (by decide) rfl ?_
      refine V_aload_n (pc := 121) C (dk k_F_count 31 rfl) rfl ?_
      refine V_getm (pc := 122) (o2 := pl) C (dk k_F_count 32 rfl) fl_F_26 kq_0 (by decide) rfl hm_pl ?_
      refine V_iconst (pc := 125) C (dk k_F_count 33 rfl) rfl ?_
      refine V_callV (pc := 126) C (dk k_F_count 34 rfl) lk_F_260 cm_S_howMany vm_S_howMany (c_S_howMany _ _ _ 19 pl π x j hπ0 ok hx0 xk (by omega) 2 ⟨by decide, by decide⟩) kq_19 rfl rfl rfl (Nat.le_of_ble_eq_true rfl) (Rm.mono hRm (by decide) (by decide)) ?_
      refine V_iret (pc := 129) C E (dk k_F_count 35 rfl) ?_
      exact ⟨by unfold o_count; rw [if_neg (by omega), if_neg (by omega), if_neg (by omega), if_neg (by omega), if_neg (by omega), if_neg (by omega), if_pos (by omega)], rfl⟩
    · refine ⟨129, 130, by rw [h1d]; rfl, rfl, ?_⟩
      refine V_aload_n (pc := 130) C (dk k_F_count 36 rfl) rfl ?_
      refine V_getr (pc := 131) (o2 := 19) C (dk k_F_count 37 rfl) fl_F_36 kq_0 (by decide) rfl (by decide) rfl ?_
      refine V_aload_n (pc := 134) C (dk k_F_count 38 rfl) rfl ?_
      refine V_getm (pc := 135) (o2 := pl) C (dk k_F_count 39 rfl) fl_F_26 kq_0 (by decide) rfl hm_pl ?_
      refine V_callV (pc := 138) C (dk k_F_count 40 rfl) lk_F_192 cm_S_nearOfCellar vm_S_nearOfCellar (c_S_nearOfCellar _ _ _ 19 pl π x j hπ0 ok hx0 xk (by omega)) kq_19 rfl rfl rfl (Nat.le_of_ble_eq_true rfl) (Rm.mono hRm (by decide) (by decide)) ?_
      refine V_iret (pc := 141) C E (dk k_F_count 41 rfl) ?_
      exact ⟨by unfold o_count cellar; rw [if_neg (by omega), if_neg (by omega), if_neg (by omega), if_neg (by omega), if_neg (by omega), if_neg (by omega), if_neg (by omega), if_pos (by omega)], rfl⟩
    · refine ⟨141, 142, by rw [h1d]; rfl, rfl, ?_⟩
      refine V_aload_n (pc := 142) C (dk k_F_count 42 rfl) rfl ?_
      refine V_getr (pc := 143) (o2 := 113) C (dk k_F_count 43 rfl) fl_F_56 kq_0 (by decide) rfl (by decide) rfl ?_
      refine V_geti (pc := 146) (ji := 3) C (dk k_F_count 44 rfl) fl_F_235 kq_113 (by decide) rfl rfl ?_
      refine V_iret (pc := 149) C E (dk k_F_count 45 rfl) ?_
      exact ⟨by unfold o_count; rw [if_neg (by omega), if_neg (by omega), if_neg (by omega), if_neg (by omega), if_neg (by omega), if_neg (by omega), if_neg (by omega), if_neg (by omega), if_pos (by omega), l1], rfl⟩
    · refine ⟨149, 150, by rw [h1d]; rfl, rfl, ?_⟩
      refine V_aload_n (pc := 150) C (dk k_F_count 46 rfl) rfl ?_
      refine V_getr (pc := 151) (o2 := 29) C (dk k_F_count 47 rfl) fl_F_46 kq_0 (by decide) rfl (by decide) rfl ?_
      refine V_geti (pc := 154) (ji := 2) C (dk k_F_count 48 rfl) fl_F_182 kq_29 (by decide) rfl rfl ?_
      refine V_iret (pc := 157) C E (dk k_F_count 49 rfl) ?_
      exact ⟨by unfold o_count; rw [if_neg (by omega), if_neg (by omega), if_neg (by omega), if_neg (by omega), if_neg (by omega), if_neg (by omega), if_neg (by omega), if_neg (by omega), if_neg (by omega), if_pos (by omega), u3], rfl⟩
    · refine ⟨157, 158, by rw [h1d]; rfl, rfl, ?_⟩
      refine V_aload_n (pc := 158) C (dk k_F_count 50 rfl) rfl ?_
      refine V_getr (pc := 159) (o2 := 71) C (dk k_F_count 51 rfl) fl_F_50 kq_0 (by decide) rfl (by decide) rfl ?_
      refine V_geti (pc := 162) (ji := 2) C (dk k_F_count 52 rfl) fl_F_182 kq_71 (by decide) rfl rfl ?_
      refine V_iret (pc := 165) C E (dk k_F_count 53 rfl) ?_
      exact ⟨by unfold o_count; rw [if_neg (by omega), if_neg (by omega), if_neg (by omega), if_neg (by omega), if_neg (by omega), if_neg (by omega), if_neg (by omega), if_neg (by omega), if_neg (by omega), if_neg (by omega), if_pos (by omega), w3], rfl⟩
    · refine ⟨165, 166, by rw [h1d]; rfl, rfl, ?_⟩
      refine V_aload_n (pc := 166) C (dk k_F_count 54 rfl) rfl ?_
      refine V_getr (pc := 167) (o2 := 1) C (dk k_F_count 55 rfl) fl_F_10 kq_0 (by decide) rfl (by decide) rfl ?_
      refine V_geti (pc := 170) (ji := 1) C (dk k_F_count 56 rfl) fl_F_94 kq_1 (by decide) rfl rfl ?_
      refine V_iret (pc := 173) C E (dk k_F_count 57 rfl) ?_
      exact ⟨by unfold o_count; rw [if_neg (by omega), if_neg (by omega), if_neg (by omega), if_neg (by omega), if_neg (by omega), if_neg (by omega), if_neg (by omega), if_neg (by omega), if_neg (by omega), if_neg (by omega), if_neg (by omega), if_pos (by omega), t1], rfl⟩
