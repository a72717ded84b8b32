def sumC (π : PL) (x : ST) (p : Int) : Int → Bool := fun t => decide (pO π t = p ∧ sP x t = 0 ∧ pL π ≤ sN x t)
def takC (π : PL) (x : ST) : Int → Bool := fun t => decide (sP x t = 0 ∧ pL π ≤ sN x t)
def come (π : PL) (x : ST) (n t : Int) : Int := cel (pK π t) (sN x t) (sD x) n.toNat
def sumF (π : PL) (x : ST) (p m : Int) : Option (Nat × Int) := fnd (okset (bs (sumC π x p) (pN π)).toNat (ssum (prc π x) (pN π)) m (sM x)) (ssum (fun t => -(pU π t)) (pN π)) (2 ^ pN π)
def takF (π : PL) (x : ST) (n : Int) : Option (Nat × Int) := fnd (okset (bs (takC π x) (pN π)).toNat (ssum (prc π x) (pN π)) 0 (sM x)) (ssum (come π x n) (pN π)) (2 ^ pN π)
def there (π : PL) (x : ST) (n : Int) (i : Nat) : Int := sm (fun t => if sP x t = 1 then come π x n t else 0) i
def o_sum (π : PL) (x : ST) (p m k : Int) : Int := if isP π p ∧ (0 ≤ m ∧ m ≤ 999) ∧ (0 ≤ k ∧ k ≤ 1) then (match sumF π x p m with
  | none => -4
  | some (s, v) => if k = 0 then (s : Int) else -v) else -1
def o_take (π : PL) (x : ST) (n k : Int) : Int := if (0 ≤ n ∧ n ≤ 20) ∧ (0 ≤ k ∧ k ≤ 1) then (match takF π x n with
  | none => if k = 0 then 0 else there π x n (pN π)
  | some (s, v) => if k = 0 then (s : Int) else there π x n (pN π) + v) else -1
theorem ssum_e (f g : Int → Int) (n : Nat) (h : ∀ t : Int, 0 ≤ t → t < n → f t = g t) : ssum f n = ssum g n := funext (fun b => ssum_cg f g n b h)

def i_F_sum : List (Nat × (Instr × Nat)) := [(0, (.aload_n 0, 1)), (1, (.iload_n 1, 1)), (2, (.invokevirtual 109, 3)), (5, (.ifCond .eq 23, 3)), (8, (.iload_n 2, 1)), (9, (.iconst 0, 1)), (10, (.sipush 999, 3)), (13, (.invokestatic 98, 3)), (16, (.ifCond .eq 12, 3)), (19, (.iload_n 3, 1)), (20, (.iconst 0, 1)), (21, (.iconst 1, 1)), (22, (.invokestatic 98, 3)), (25, (.ifCond .ne 5, 3)), (28, (.iconst (-1), 1)), (29, (.ireturn, 1)), (30, (.iconst 0, 1)), (31, (.istore 4, 2)), (33, (.iconst 0, 1)), (34, (.istore 5, 2)), (36, (.iload 5, 2)), (38, (.aload_n 0, 1)), (39, (.getfield 26, 3)), (42, (.getfield 196, 3)), (45, (.if_icmp .ge 85, 3)), (48, (.aload_n 0, 1)), (49, (.getfield 26, 3)), (52, (.getfield 131, 3)), (55, (.iload 5, 2)), (57, (.invokestatic 117, 3)), (60, (.iload_n 1, 1)), (61, (.if_icmp .ne 28, 3)), (64, (.aload_n 0, 1)), (65, (.getfield 36, 3)), (68, (.aload_n 0, 1)), (69, (.getfield 26, 3)), (72, (.iload 5, 2)), (74, (.invokevirtual 199, 3)), (77, (.ifCond .eq 12, 3)), (80, (.iload 4, 2)), (82, (.iconst 1, 1)), (83, (.iload 5, 2)), (85, (.ishl, 1)), (86, (.ior, 1)), (87, (.istore 4, 2)), (89, (.aload_n 0, 1)), (90, (.getfield 63, 3)), (93, (.iload 5, 2)), (95, (.aload_n 0, 1)), (96, (.getfield 36, 3)), (99, (.aload_n 0, 1)), (100, (.getfield 26, 3)), (103, (.iload 5, 2)), (105, (.invokevirtual 146, 3)), (108, (.aload_n 0, 1)), (109, (.getfield 26, 3)), (112, (.getfield 140, 3)), (115, (.iload 5, 2)), (117, (.invokestatic 117, 3)), (120, (.ineg, 1)), (121, (.invokevirtual 202, 3)), (124, (.iinc 5 1, 3)), (127, (.goto (-91), 3)), (130, (.aload_n 0, 1)), (131, (.getfield 63, 3)), (134, (.aload_n 0, 1)), (135, (.getfield 26, 3)), (138, (.getfield 196, 3)), (141, (.iload 4, 2)), (143, (.iload_n 2, 1)), (144, (.aload_n 0, 1)), (145, (.getfield 36, 3)), (148, (.getfield 206, 3)), (151, (.invokevirtual 209, 3)), (154, (.ifCond .ne 6, 3)), (157, (.bipush (-4), 2)), (159, (.ireturn, 1)), (160, (.iload_n 3, 1)), (161, (.ifCond .ne 13, 3)), (164, (.aload_n 0, 1)), (165, (.getfield 63, 3)), (168, (.getfield 213, 3)), (171, (.goto 11, 3)), (174, (.aload_n 0, 1)), (175, (.getfield 63, 3)), (178, (.getfield 216, 3)), (181, (.ineg, 1)), (182, (.ireturn, 1))]
theorem k_F_sum : i_F_sum.all (fun q => decide (decode b_F_sum q.1 = .ok q.2)) = true := by decide +kernel

set_option maxHeartbeats 1000000 in
set_option maxRecDepth 20000 in
theorem c_F_sum (l : Launch) (G : GE) (σ : Wd) (pl sp : Nat) (π : PL) (x : ST) (us ks : List ST) (lk : List (Int × (Int × Int))) (tx : List Int) (j : Int) (hC : CR σ pl sp π x us ks lk tx) (hV : VK π x us ks j) (hj : j ≤ 100) (p m k : Int) (hp : inR p) (hm : inR m) (hk : inR k) : Ct l G y_F_sum b_F_sum 6 (some (.int)) 3 73 [vR 0, vI p, vI m, vI k] σ (Rt (some (vI (o_sum π x p m k))) (fun σ' => CR σ' pl sp π x us ks lk tx ∧ Fc σ σ')) := by
  refine Ct.of cm_F_sum (Nat.le_of_ble_eq_true rfl) ?_
  intro X hXl hXG hXN hRm C E
  subst hXl; subst hXG
  have ⟨hp_1, hp_2⟩ := hp
  have ⟨hm_1, hm_2⟩ := hm
  have ⟨hk_1, hk_2⟩ := hk
  show V X 0 [some (vR 0), some (vI p), some (vI m), some (vI k), none, none] [] σ
  refine V_R (fun hR => ?_)
  obtain ⟨hF, hsp0, hsp, hne, hx, hU, hK, hl, hT⟩ := id hC
  obtain ⟨ok, xk, usk, ksk, ks2⟩ := id hV
  have hF0 := hF
  obtain ⟨hm_pl, hπ⟩ := hF
  have hπ0 := hπ
  obtain ⟨hpl, e0, e2, e7, e10, eT, eX⟩ := hπ
  obtain ⟨hpl_1, hpl_2, hpl_3, hpl_4, hpl_5, hpl_6⟩ := kd_P hpl
  have ⟨k1, k2, k3, k4, k5, k6, kT, kX⟩ := ok
  have hx0 := hx
  obtain ⟨hs, f0, f1, fQ, fT⟩ := hx
  simp only [Nat.reduceAdd] at fQ fT
  have ⟨x1, x2, x3, x4, xQ, xT⟩ := xk
  have p512 := kd5 hpl
  have s512 := kd5 hsp
  refine V_aload_n (pc := 0) C (dk k_F_sum 0 rfl) rfl ?_
  refine V_iload_n (pc := 1) C (dk k_F_sum 1 rfl) rfl ?_
  refine V_callV (pc := 2) C (dk k_F_sum 2 rfl) lk_F_109 cm_F_isPerson vm_F_isPerson (c_F_isPerson _ _ _ pl π p hF0 ok hp) kq_0 rfl rfl rfl (Nat.le_of_ble_eq_true rfl) (Rm.mono hRm (by decide) (by decide)) ?_
  refine V_ifeqB (pc := 5) C (dk k_F_sum 3 rfl) 28 rfl (fun h1 => ?_) (fun h1 => ?_)
  · skip
    refine V_iconst (pc := 28) C (dk k_F_sum 14 rfl) rfl ?_
    refine V_iret (pc := 29) C E (dk k_F_sum 15 rfl) ?_
    rw [show o_sum π x p m k = -1 from if_neg (by omega)]
    exact ⟨rfl, hC, Fc.rf σ⟩
  · skip
    refine V_iload_n (pc := 8) C (dk k_F_sum 4 rfl) rfl ?_
    refine V_iconst (pc := 9) C (dk k_F_sum 5 rfl) rfl ?_
    refine V_sipush (pc := 10) (n' := 999) C (dk k_F_sum 6 rfl) rfl ?_
    refine V_callS (pc := 13) C (dk k_F_sum 7 rfl) lk_F_98 cm_F_within sm_F_within (c_F_within _ _ _ m 0 999 hm ⟨by decide, by decide⟩ ⟨by decide, by decide⟩) rfl rfl (Nat.le_of_ble_eq_true rfl) (Rm.mono hRm (by decide) (by decide)) ?_
    refine V_ifeqB (pc := 16) C (dk k_F_sum 8 rfl) 28 rfl (fun h2 => ?_) (fun h2 => ?_)
    · skip
      refine V_iconst (pc := 28) C (dk k_F_sum 14 rfl) rfl ?_
      refine V_iret (pc := 29) C E (dk k_F_sum 15 rfl) ?_
      rw [show o_sum π x p m k = -1 from if_neg (by omega)]
      exact ⟨rfl, hC, Fc.rf σ⟩
    · skip
      refine V_iload_n (pc := 19) C (dk k_F_sum 9 rfl) rfl ?_
      refine V_iconst (pc := 20) C (dk k_F_sum 10 rfl) rfl ?_
      refine V_iconst (pc := 21) C (dk k_F_sum 11 rfl) rfl ?_
      refine V_callS (pc := 22) C (dk k_F_sum 12 rfl) lk_F_98 cm_F_within sm_F_within (c_F_within _ _ _ k 0 1 hk ⟨by decide, by decide⟩ ⟨by decide, by decide⟩) rfl rfl (Nat.le_of_ble_eq_true rfl) (Rm.mono hRm (by decide) (by decide)) ?_
      refine V_ifneB (pc := 25) C (dk k_F_sum 13 rfl) 30 rfl (fun h3 => ?_) (fun h3 => ?_)
      · skip
        refine V_iconst (pc := 30) C (dk k_F_sum 16 rfl) rfl ?_
        refine V_istore (pc := 31) C (dk k_F_sum 17 rfl) (by rw [hXN]; decide) ?_
        dsimp only [lst, lstL, lz, kill, Fin.val, Nat.reduceAdd]
        refine V_iconst (pc := 33) C (dk k_F_sum 18 rfl) rfl ?_
        refine V_istore (pc := 34) C (dk k_F_sum 19 rfl) (by rw [hXN]; decide) ?_
        dsimp only [lst, lstL, lz, kill, Fin.val, Nat.reduceAdd]
        refine V_eq (V_loop (fun q : Nat × Wd => q.1 ≤ pN π ∧ (∀ t : Int, 0 ≤ t → t < q.1 → q.2 118 t = prc π x t ∧ q.2 119 t = -(pU π t)) ∧ Fr 118 2 σ q.2) (fun q => [some (vR 0), some (vI p), some (vI m), some (vI k), some (vI (bs (sumC π x p) q.1)), some (vI (q.1 : Int))]) (fun q => q.2) (fun q => pN π - q.1) (fun q hq ih => ?_) (0, σ) ⟨Nat.zero_le _, fun t a b => by dsimp only at b; omega, Fr.rf _ _ _⟩) rfl rfl rfl
        obtain ⟨i, τ⟩ := q
        obtain ⟨hi, hv, tfr⟩ := hq
        dsimp only at hi hv tfr ih ⊢
        refine V_R (fun hR => ?_)
        have hb := bs_256 (sumC π x p) (show i ≤ 8 by omega)
        have rpl : ∀ d, d < 7 → τ (pl + d) = σ (pl + d) := fun d hd => tfr _ (by omega)
        have r0 : τ pl = σ pl := tfr _ (by omega)
        have r2 : τ (pl + 2) = σ (pl + 2) := rpl 2 (by omega)
        have r5 : τ (pl + 5) = σ (pl + 5) := rpl 5 (by omega)
        have r19 : τ 19 = σ 19 := tfr _ (by omega)
        refine V_iload (pc := 36) C (dk k_F_sum 20 rfl) rfl ?_
        refine V_aload_n (pc := 38) C (dk k_F_sum 21 rfl) rfl ?_
        refine V_getm (pc := 39) (o2 := pl) C (dk k_F_sum 22 rfl) fl_F_26 kq_0 (by decide) rfl (by rw [tfr 0 (by omega)]; exact hm_pl) ?_
        refine V_geti (pc := 42) (ji := 2) C (dk k_F_sum 23 rfl) fl_F_196 hpl (by decide) rfl rfl ?_
        rw [r0]
        refine V_icmpge (pc := 45) C (dk k_F_sum 24 rfl) 130 rfl (by first | exact hR _ _ | with_reducible assumption | exact ⟨by omega, by omega⟩) (by first | exact hR _ _ | with_reducible assumption | exact ⟨by omega, by omega⟩) (fun h4 => ?_) (fun h4 => ?_)
        · skip
          obtain rfl : i = pN π := by omega
          have hbb : ∀ t : Int, 0 ≤ t → t < pN π → (-1000 ≤ τ 118 t ∧ τ 118 t ≤ 1000) ∧ (-1000 ≤ τ 119 t ∧ τ 119 t ≤ 1000) := fun t a b => by (obtain ⟨v1, v2⟩ := hv t a b; have ⟨pb0, pb1⟩ := prc_b ok xk a b; obtain ⟨-, -, -, -, c1, c2⟩ := kT t a b; omega)
          have eP := ssum_e (τ 118) (prc π x) (pN π) (fun t a b => (hv t a b).1)
          have eW := ssum_e (τ 119) (fun t => -(pU π t)) (pN π) (fun t a b => (hv t a b).2)
          refine V_aload_n (pc := 130) C (dk k_F_sum 63 rfl) rfl ?_
          refine V_getr (pc := 131) (o2 := 117) C (dk k_F_sum 64 rfl) fl_F_63 kq_0 (by decide) rfl (by decide) rfl ?_
          refine V_aload_n (pc := 134) C (dk k_F_sum 65 rfl) rfl ?_
          refine V_getm (pc := 135) (o2 := pl) C (dk k_F_sum 66 rfl) fl_F_26 kq_0 (by decide) rfl (by rw [tfr 0 (by omega)]; exact hm_pl) ?_
          refine V_geti (pc := 138) (ji := 2) C (dk k_F_sum 67 rfl) fl_F_196 hpl (by decide) rfl rfl ?_
          refine V_iload (pc := 141) C (dk k_F_sum 68 rfl) rfl ?_
          refine V_iload_n (pc := 143) C (dk k_F_sum 69 rfl) rfl ?_
          refine V_aload_n (pc := 144) C (dk k_F_sum 70 rfl) rfl ?_
          refine V_getr (pc := 145) (o2 := 19) C (dk k_F_sum 71 rfl) fl_F_36 kq_0 (by decide) rfl (by decide) rfl ?_
          refine V_geti (pc := 148) (ji := 1) C (dk k_F_sum 72 rfl) fl_F_206 kq_19 (by decide) rfl rfl ?_
          rw [r0, e2, r19, f1, show bs (sumC π x p) (pN π) = (((bs (sumC π x p) (pN π)).toNat : Nat) : Int) by omega]
          refine V_callVr (pc := 151) C (dk k_F_sum 73 rfl) lk_F_209 cm_C_find vm_C_find (c_C_find _ _ _ (pN π) (bs (sumC π x p) (pN π)).toNat m (sM x) (by omega) (by omega) hm ⟨by omega, by omega⟩ hbb) kq_117 rfl rfl rfl (Nat.le_of_ble_eq_true rfl) (Rm.mono hRm (by decide) (by decide)) (fun τ2 hq2 => ?_)
          refine V_R (fun hR => ?_)
          rw [eP, eW] at hq2 ⊢
          obtain ⟨hq3, -, hq4⟩ := hq2
          have ffr : ∀ k, (k < 117 ∨ 122 ≤ k) → τ2 k = σ k := fun k a => (hq4 k a).trans (tfr k (by omega))
          change V X _ _ [vI (if (sumF π x p m).isSome = true then 1 else 0)] _
          change ∀ (s : Nat) (v : Int), sumF π x p m = some (s, v) → τ2 117 4 = s ∧ τ2 117 5 = v at hq3
          obtain ⟨S, hS⟩ : ∃ S, S = sumF π x p m := ⟨_, rfl⟩
          rw [← hS] at hq3 ⊢
          refine V_ifneB (pc := 154) C (dk k_F_sum 74 rfl) 160 rfl (fun h5 => ?_) (fun h5 => ?_)
          · skip
            obtain ⟨⟨s, v⟩, hsv⟩ := Option.isSome_iff_exists.mp (by assumption : S.isSome = true)
            obtain ⟨v1, v2⟩ := hq3 s v hsv
            have hv2 : inR v := by rw [← v2]; exact hR _ _
            refine V_iload_n (pc := 160) C (dk k_F_sum 77 rfl) rfl ?_
            refine V_ifne (pc := 161) C (dk k_F_sum 78 rfl) 174 rfl (by first | exact hR _ _ | with_reducible assumption | exact ⟨by omega, by omega⟩) (fun h6 => ?_) (fun h6 => ?_)
            · skip
              refine V_aload_n (pc := 174) C (dk k_F_sum 83 rfl) rfl ?_
              refine V_getr (pc := 175) (o2 := 117) C (dk k_F_sum 84 rfl) fl_F_63 kq_0 (by decide) rfl (by decide) rfl ?_
              refine V_geti (pc := 178) (ji := 5) C (dk k_F_sum 85 rfl) fl_F_216 kq_117 (by decide) rfl rfl ?_
              refine V_ineg (pc := 181) C (dk k_F_sum 86 rfl) ?_
              refine V_iret (pc := 182) C E (dk k_F_sum 87 rfl) ?_
              have ho : o_sum π x p m k = if k = 0 then (s : Int) else -v := by unfold o_sum; rw [if_pos (by omega), ← hS, hsv]
              rw [ho]
              first | (rw [if_pos (by omega), v1]; exact ⟨rfl, hC.fr (fun k a => ffr k (by unfold scr at a; omega)), fun k a => ffr k (by omega)⟩) | (rw [if_neg (by omega), v2]; exact ⟨rfl, hC.fr (fun k a => ffr k (by unfold scr at a; omega)), fun k a => ffr k (by omega)⟩)
            · skip
              refine V_aload_n (pc := 164) C (dk k_F_sum 79 rfl) rfl ?_
              refine V_getr (pc := 165) (o2 := 117) C (dk k_F_sum 80 rfl) fl_F_63 kq_0 (by decide) rfl (by decide) rfl ?_
              refine V_geti (pc := 168) (ji := 4) C (dk k_F_sum 81 rfl) fl_F_213 kq_117 (by decide) rfl rfl ?_
              refine V_goto (pc := 171) C (dk k_F_sum 82 rfl) 182 rfl ?_
              refine V_iret (pc := 182) C E (dk k_F_sum 87 rfl) ?_
              have ho : o_sum π x p m k = if k = 0 then (s : Int) else -v := by unfold o_sum; rw [if_pos (by omega), ← hS, hsv]
              rw [ho]
              first | (rw [if_pos (by omega), v1]; exact ⟨rfl, hC.fr (fun k a => ffr k (by unfold scr at a; omega)), fun k a => ffr k (by omega)⟩) | (rw [if_neg (by omega), v2]; exact ⟨rfl, hC.fr (fun k a => ffr k (by unfold scr at a; omega)), fun k a => ffr k (by omega)⟩)
          · skip
            refine V_bipush (pc := 157) (n' := (-4)) C (dk k_F_sum 75 rfl) rfl ?_
            refine V_iret (pc := 159) C E (dk k_F_sum 76 rfl) ?_
            have hn : S = none := by cases hc : S with | none => rfl | some q => exact absurd (by rw [hc]; rfl) (by assumption : ¬ S.isSome = true)
            have ho : o_sum π x p m k = -4 := by unfold o_sum; rw [if_pos (by omega), ← hS, hn]
            rw [ho]
            exact ⟨rfl, hC.fr (fun k a => ffr k (by unfold scr at a; omega)), fun k a => ffr k (by omega)⟩
        · skip
          obtain ⟨gN, gP⟩ := fT i (by omega) (by omega)
          obtain ⟨gO, gK, gU⟩ := eT i (by omega) (by omega)
          obtain ⟨kO0, kO1, kK0, kK1, kU0, kU1⟩ := kT i (by omega) (by omega)
          have hp8 := bs_p8 (show i < 8 by omega)
          have ⟨pb0, pb1⟩ := prc_b ok xk (t := (i : Int)) (by omega) (by omega)
          refine V_aload_n (pc := 48) C (dk k_F_sum 25 rfl) rfl ?_
          refine V_getm (pc := 49) (o2 := pl) C (dk k_F_sum 26 rfl) fl_F_26 kq_0 (by decide) rfl (by rw [tfr 0 (by omega)]; exact hm_pl) ?_
          refine V_getr (pc := 52) (o2 := pl + 2) C (dk k_F_sum 27 rfl) fl_F_131 hpl (by decide) rfl (by decide) rfl ?_
          refine V_iload (pc := 55) C (dk k_F_sum 28 rfl) rfl ?_
          refine V_callS (pc := 57) C (dk k_F_sum 29 rfl) lk_F_117 cm_F_at sm_F_at (c_at _ _ _ (pl + 2) 8 (i : Int) hpl_2 (by decide) (by omega) (by omega)) rfl rfl (Nat.le_of_ble_eq_true rfl) (Rm.mono hRm (by decide) (by decide)) ?_
          rw [r2, gO]
          refine V_iload_n (pc := 60) C (dk k_F_sum 30 rfl) rfl ?_
          refine V_icmpne (pc := 61) C (dk k_F_sum 31 rfl) 89 rfl (by first | exact hR _ _ | with_reducible assumption | exact ⟨by omega, by omega⟩) (by first | exact hR _ _ | with_reducible assumption | exact ⟨by omega, by omega⟩) (fun h7 => ?_) (fun h7 => ?_)
          · skip
            refine V_aload_n (pc := 89) C (dk k_F_sum 45 rfl) rfl ?_
            refine V_getr (pc := 90) (o2 := 117) C (dk k_F_sum 46 rfl) fl_F_63 kq_0 (by decide) rfl (by decide) rfl ?_
            refine V_iload (pc := 93) C (dk k_F_sum 47 rfl) rfl ?_
            refine V_aload_n (pc := 95) C (dk k_F_sum 48 rfl) rfl ?_
            refine V_getr (pc := 96) (o2 := 19) C (dk k_F_sum 49 rfl) fl_F_36 kq_0 (by decide) rfl (by decide) rfl ?_
            refine V_aload_n (pc := 99) C (dk k_F_sum 50 rfl) rfl ?_
            refine V_getm (pc := 100) (o2 := pl) C (dk k_F_sum 51 rfl) fl_F_26 kq_0 (by decide) rfl (by rw [tfr 0 (by omega)]; exact hm_pl) ?_
            refine V_iload (pc := 103) C (dk k_F_sum 52 rfl) rfl ?_
            refine V_callV (pc := 105) C (dk k_F_sum 53 rfl) lk_F_146 cm_S_price vm_S_price (c_S_price _ _ _ 19 pl π x j i (hπ0.fr (fun k a b => tfr k (by omega))) ok (hx0.fr (fun k a b => tfr k (by omega))) xk (by omega) (by omega) (by omega)) kq_19 rfl rfl rfl (Nat.le_of_ble_eq_true rfl) (Rm.mono hRm (by decide) (by decide)) ?_
            refine V_aload_n (pc := 108) C (dk k_F_sum 54 rfl) rfl ?_
            refine V_getm (pc := 109) (o2 := pl) C (dk k_F_sum 55 rfl) fl_F_26 kq_0 (by decide) rfl (by rw [tfr 0 (by omega)]; exact hm_pl) ?_
            refine V_getr (pc := 112) (o2 := pl + 5) C (dk k_F_sum 56 rfl) fl_F_140 hpl (by decide) rfl (by decide) rfl ?_
            refine V_iload (pc := 115) C (dk k_F_sum 57 rfl) rfl ?_
            refine V_callS (pc := 117) C (dk k_F_sum 58 rfl) lk_F_117 cm_F_at sm_F_at (c_at _ _ _ (pl + 5) 8 (i : Int) hpl_5 (by decide) (by omega) (by omega)) rfl rfl (Nat.le_of_ble_eq_true rfl) (Rm.mono hRm (by decide) (by decide)) ?_
            rw [r5, gU]
            refine V_ineg (pc := 120) C (dk k_F_sum 59 rfl) ?_
            refine V_callV0 (pc := 121) C (dk k_F_sum 60 rfl) lk_F_202 cm_C_offer vm_C_offer (c_C_offer _ _ _ i (prc π x i) (-(pU π i)) (by omega) (by omega) ⟨by omega, by omega⟩ ⟨by omega, by omega⟩) kq_117 rfl rfl rfl (Nat.le_of_ble_eq_true rfl) (Rm.mono hRm (by decide) (by decide)) ?_
            refine V_R (fun hR => ?_)
            refine V_iinc (pc := 124) C (dk k_F_sum 61 rfl) (by rw [hXN]; decide) rfl ?_
            dsimp only [lst, lstL, lz, kill, Fin.val, Nat.reduceAdd]
            refine V_goto (pc := 127) C (dk k_F_sum 62 rfl) 36 rfl ?_
            refine V_eq (ih (i + 1, up (up τ 118 (i : Int) (prc π x i)) 119 (i : Int) (-(pU π i))) ⟨by dsimp only; omega, fun t a b => ?_, (tfr.up _ _ (by omega) (by omega)).up _ _ (by omega) (by omega)⟩ (by dsimp only; omega)) ?_ rfl rfl
            · dsimp only at b ⊢
              by_cases ht : t = i
              · subst ht; exact ⟨(up_ne1 _ _ _ _ (by decide)).trans (up_at _ _ _ _), up_at _ _ _ _⟩
              · simp (disch := omega) only [up_ne1, up_ne2]; exact hv t a (by omega)
            · rw [bs_s]
              first | (rw [if_pos (show sumC π x p (i : Int) = true from decide_eq_true ⟨by omega, by omega, by omega⟩), ← bs_or]; rfl) | (rw [if_neg (show ¬ sumC π x p (i : Int) = true from fun z => by have := of_decide_eq_true z; omega), Int.add_zero]; rfl)
          · skip
            refine V_aload_n (pc := 64) C (dk k_F_sum 32 rfl) rfl ?_
            refine V_getr (pc := 65) (o2 := 19) C (dk k_F_sum 33 rfl) fl_F_36 kq_0 (by decide) rfl (by decide) rfl ?_
            refine V_aload_n (pc := 68) C (dk k_F_sum 34 rfl) rfl ?_
            refine V_getm (pc := 69) (o2 := pl) C (dk k_F_sum 35 rfl) fl_F_26 kq_0 (by decide) rfl (by rw [tfr 0 (by omega)]; exact hm_pl) ?_
            refine V_iload (pc := 72) C (dk k_F_sum 36 rfl) rfl ?_
            refine V_callV (pc := 74) C (dk k_F_sum 37 rfl) lk_F_199 cm_S_isOffered vm_S_isOffered (c_S_isOffered _ _ _ 19 pl π x j i (hπ0.fr (fun k a b => tfr k (by omega))) ok (hx0.fr (fun k a b => tfr k (by omega))) xk (by omega) (by omega) (by omega)) kq_19 rfl rfl rfl (Nat.le_of_ble_eq_true rfl) (Rm.mono hRm (by decide) (by decide)) ?_
            refine V_ifeqB (pc := 77) C (dk k_F_sum 38 rfl) 89 rfl (fun h8 => ?_) (fun h8 => ?_)
            · skip
              refine V_aload_n (pc := 89) C (dk k_F_sum 45 rfl) rfl ?_
              refine V_getr (pc := 90) (o2 := 117) C (dk k_F_sum 46 rfl) fl_F_63 kq_0 (by decide) rfl (by decide) rfl ?_
              refine V_iload (pc := 93) C (dk k_F_sum 47 rfl) rfl ?_
              refine V_aload_n (pc := 95) C (dk k_F_sum 48 rfl) rfl ?_
              refine V_getr (pc := 96) (o2 := 19) C (dk k_F_sum 49 rfl) fl_F_36 kq_0 (by decide) rfl (by decide) rfl ?_
              refine V_aload_n (pc := 99) C (dk k_F_sum 50 rfl) rfl ?_
              refine V_getm (pc := 100) (o2 := pl) C (dk k_F_sum 51 rfl) fl_F_26 kq_0 (by decide) rfl (by rw [tfr 0 (by omega)]; exact hm_pl) ?_
              refine V_iload (pc := 103) C (dk k_F_sum 52 rfl) rfl ?_
              refine V_callV (pc := 105) C (dk k_F_sum 53 rfl) lk_F_146 cm_S_price vm_S_price (c_S_price _ _ _ 19 pl π x j i (hπ0.fr (fun k a b => tfr k (by omega))) ok (hx0.fr (fun k a b => tfr k (by omega))) xk (by omega) (by omega) (by omega)) kq_19 rfl rfl rfl (Nat.le_of_ble_eq_true rfl) (Rm.mono hRm (by decide) (by decide)) ?_
              refine V_aload_n (pc := 108) C (dk k_F_sum 54 rfl) rfl ?_
              refine V_getm (pc := 109) (o2 := pl) C (dk k_F_sum 55 rfl) fl_F_26 kq_0 (by decide) rfl (by rw [tfr 0 (by omega)]; exact hm_pl) ?_
              refine V_getr (pc := 112) (o2 := pl + 5) C (dk k_F_sum 56 rfl) fl_F_140 hpl (by decide) rfl (by decide) rfl ?_
              refine V_iload (pc := 115) C (dk k_F_sum 57 rfl) rfl ?_
              refine V_callS (pc := 117) C (dk k_F_sum 58 rfl) lk_F_117 cm_F_at sm_F_at (c_at _ _ _ (pl + 5) 8 (i : Int) hpl_5 (by decide) (by omega) (by omega)) rfl rfl (Nat.le_of_ble_eq_true rfl) (Rm.mono hRm (by decide) (by decide)) ?_
              rw [r5, gU]
              refine V_ineg (pc := 120) C (dk k_F_sum 59 rfl) ?_
              refine V_callV0 (pc := 121) C (dk k_F_sum 60 rfl) lk_F_202 cm_C_offer vm_C_offer (c_C_offer _ _ _ i (prc π x i) (-(pU π i)) (by omega) (by omega) ⟨by omega, by omega⟩ ⟨by omega, by omega⟩) kq_117 rfl rfl rfl (Nat.le_of_ble_eq_true rfl) (Rm.mono hRm (by decide) (by decide)) ?_
              refine V_R (fun hR => ?_)
              refine V_iinc (pc := 124) C (dk k_F_sum 61 rfl) (by rw [hXN]; decide) rfl ?_
              dsimp only [lst, lstL, lz, kill, Fin.val, Nat.reduceAdd]
              refine V_goto (pc := 127) C (dk k_F_sum 62 rfl) 36 rfl ?_
              refine V_eq (ih (i + 1, up (up τ 118 (i : Int) (prc π x i)) 119 (i : Int) (-(pU π i))) ⟨by dsimp only; omega, fun t a b => ?_, (tfr.up _ _ (by omega) (by omega)).up _ _ (by omega) (by omega)⟩ (by dsimp only; omega)) ?_ rfl rfl
              · dsimp only at b ⊢
                by_cases ht : t = i
                · subst ht; exact ⟨(up_ne1 _ _ _ _ (by decide)).trans (up_at _ _ _ _), up_at _ _ _ _⟩
                · simp (disch := omega) only [up_ne1, up_ne2]; exact hv t a (by omega)
              · rw [bs_s]
                first | (rw [if_pos (show sumC π x p (i : Int) = true from decide_eq_true ⟨by omega, by omega, by omega⟩), ← bs_or]; rfl) | (rw [if_neg (show ¬ sumC π x p (i : Int) = true from fun z => by have := of_decide_eq_true z; omega), Int.add_zero]; rfl)
            · skip
              refine V_iload (pc := 80) C (dk k_F_sum 39 rfl) rfl ?_
              refine V_iconst (pc := 82) C (dk k_F_sum 40 rfl) rfl ?_
              refine V_iload (pc := 83) C (dk k_F_sum 41 rfl) rfl ?_
              refine V_ishl (pc := 85) C (dk k_F_sum 42 rfl) (by omega) (by omega) (by omega) hp8.1 ?_
              refine V_ior (pc := 86) C (dk k_F_sum 43 rfl) ⟨by omega, by omega⟩ ⟨by omega, by omega⟩ (by omega) (by omega) ?_
              refine V_istore (pc := 87) C (dk k_F_sum 44 rfl) (by rw [hXN]; decide) ?_
              dsimp only [lst, lstL, lz, kill, Fin.val, Nat.reduceAdd]
              refine V_aload_n (pc := 89) C (dk k_F_sum 45 rfl) rfl ?_
              refine V_getr (pc := 90) (o2 := 117) C (dk k_F_sum 46 rfl) fl_F_63 kq_0 (by decide) rfl (by decide) rfl ?_
              refine V_iload (pc := 93) C (dk k_F_sum 47 rfl) rfl ?_
              refine V_aload_n (pc := 95) C (dk k_F_sum 48 rfl) rfl ?_
              refine V_getr (pc := 96) (o2 := 19) C (dk k_F_sum 49 rfl) fl_F_36 kq_0 (by decide) rfl (by decide) rfl ?_
              refine V_aload_n (pc := 99) C (dk k_F_sum 50 rfl) rfl ?_
              refine V_getm (pc := 100) (o2 := pl) C (dk k_F_sum 51 rfl) fl_F_26 kq_0 (by decide) rfl (by rw [tfr 0 (by omega)]; exact hm_pl) ?_
              refine V_iload (pc := 103) C (dk k_F_sum 52 rfl) rfl ?_
              refine V_callV (pc := 105) C (dk k_F_sum 53 rfl) lk_F_146 cm_S_price vm_S_price (c_S_price _ _ _ 19 pl π x j i (hπ0.fr (fun k a b => tfr k (by omega))) ok (hx0.fr (fun k a b => tfr k (by omega))) xk (by omega) (by omega) (by omega)) kq_19 rfl rfl rfl (Nat.le_of_ble_eq_true rfl) (Rm.mono hRm (by decide) (by decide)) ?_
              refine V_aload_n (pc := 108) C (dk k_F_sum 54 rfl) rfl ?_
              refine V_getm (pc := 109) (o2 := pl) C (dk k_F_sum 55 rfl) fl_F_26 kq_0 (by decide) rfl (by rw [tfr 0 (by omega)]; exact hm_pl) ?_
              refine V_getr (pc := 112) (o2 := pl + 5) C (dk k_F_sum 56 rfl) fl_F_140 hpl (by decide) rfl (by decide) rfl ?_
              refine V_iload (pc := 115) C (dk k_F_sum 57 rfl) rfl ?_
              refine V_callS (pc := 117) C (dk k_F_sum 58 rfl) lk_F_117 cm_F_at sm_F_at (c_at _ _ _ (pl + 5) 8 (i : Int) hpl_5 (by decide) (by omega) (by omega)) rfl rfl (Nat.le_of_ble_eq_true rfl) (Rm.mono hRm (by decide) (by decide)) ?_
              rw [r5, gU]
              refine V_ineg (pc := 120) C (dk k_F_sum 59 rfl) ?_
              refine V_callV0 (pc := 121) C (dk k_F_sum 60 rfl) lk_F_202 cm_C_offer vm_C_offer (c_C_offer _ _ _ i (prc π x i) (-(pU π i)) (by omega) (by omega) ⟨by omega, by omega⟩ ⟨by omega, by omega⟩) kq_117 rfl rfl rfl (Nat.le_of_ble_eq_true rfl) (Rm.mono hRm (by decide) (by decide)) ?_
              refine V_R (fun hR => ?_)
              refine V_iinc (pc := 124) C (dk k_F_sum 61 rfl) (by rw [hXN]; decide) rfl ?_
              dsimp only [lst, lstL, lz, kill, Fin.val, Nat.reduceAdd]
              refine V_goto (pc := 127) C (dk k_F_sum 62 rfl) 36 rfl ?_
              refine V_eq (ih (i + 1, up (up τ 118 (i : Int) (prc π x i)) 119 (i : Int) (-(pU π i))) ⟨by dsimp only; omega, fun t a b => ?_, (tfr.up _ _ (by omega) (by omega)).up _ _ (by omega) (by omega)⟩ (by dsimp only; omega)) ?_ rfl rfl
              · dsimp only at b ⊢
                by_cases ht : t = i
                · subst ht; exact ⟨(up_ne1 _ _ _ _ (by decide)).trans (up_at _ _ _ _), up_at _ _ _ _⟩
                · simp (disch := omega) only [up_ne1, up_ne2]; exact hv t a (by omega)
              · rw [bs_s]
                first | (rw [if_pos (show sumC π x p (i : Int) = true from decide_eq_true ⟨by omega, by omega, by omega⟩), ← bs_or]; rfl) | (rw [if_neg (show ¬ sumC π x p (i : Int) = true from fun z => by have := of_decide_eq_true z; omega), Int.add_zero]; rfl)
      · skip
        refine V_iconst (pc := 28) C (dk k_F_sum 14 rfl) rfl ?_
        refine V_iret (pc := 29) C E (dk k_F_sum 15 rfl) ?_
        rw [show o_sum π x p m k = -1 from if_neg (by omega)]
        exact ⟨rfl, hC, Fc.rf σ⟩

def i_F_take : List (Nat × (Instr × Nat)) := [(0, (.iload_n 1, 1)), (1, (.iconst 0, 1)), (2, (.bipush 20, 2)), (4, (.invokestatic 98, 3)), (7, (.ifCond .eq 12, 3)), (10, (.iload_n 2, 1)), (11, (.iconst 0, 1)), (12, (.iconst 1, 1)), (13, (.invokestatic 98, 3)), (16, (.ifCond .ne 5, 3)), (19, (.iconst (-1), 1)), (20, (.ireturn, 1)), (21, (.iconst 0, 1)), (22, (.istore_n 3, 1)), (23, (.iconst 0, 1)), (24, (.istore 4, 2)), (26, (.iconst 0, 1)), (27, (.istore 5, 2)), (29, (.iload 5, 2)), (31, (.aload_n 0, 1)), (32, (.getfield 26, 3)), (35, (.getfield 196, 3)), (38, (.if_icmp .ge 100, 3)), (41, (.aload_n 0, 1)), (42, (.iload 5, 2)), (44, (.aload_n 0, 1)), (45, (.getfield 26, 3)), (48, (.getfield 134, 3)), (51, (.iload 5, 2)), (53, (.invokestatic 117, 3)), (56, (.iload_n 1, 1)), (57, (.invokevirtual 185, 3)), (60, (.istore 6, 2)), (62, (.aload_n 0, 1)), (63, (.getfield 36, 3)), (66, (.getfield 143, 3)), (69, (.iload 5, 2)), (71, (.invokestatic 117, 3)), (74, (.iconst 1, 1)), (75, (.if_icmp .ne 10, 3)), (78, (.iload 4, 2)), (80, (.iload 6, 2)), (82, (.iadd, 1)), (83, (.istore 4, 2)), (85, (.aload_n 0, 1)), (86, (.getfield 36, 3)), (89, (.aload_n 0, 1)), (90, (.getfield 26, 3)), (93, (.iload 5, 2)), (95, (.invokevirtual 199, 3)), (98, (.ifCond .eq 10, 3)), (101, (.iload_n 3, 1)), (102, (.iconst 1, 1)), (103, (.iload 5, 2)), (105, (.ishl, 1)), (106, (.ior, 1)), (107, (.istore_n 3, 1)), (108, (.aload_n 0, 1)), (109, (.getfield 63, 3)), (112, (.iload 5, 2)), (114, (.aload_n 0, 1)), (115, (.getfield 36, 3)), (118, (.aload_n 0, 1)), (119, (.getfield 26, 3)), (122, (.iload 5, 2)), (124, (.invokevirtual 146, 3)), (127, (.iload 6, 2)), (129, (.invokevirtual 202, 3)), (132, (.iinc 5 1, 3)), (135, (.goto (-106), 3)), (138, (.aload_n 0, 1)), (139, (.getfield 63, 3)), (142, (.aload_n 0, 1)), (143, (.getfield 26, 3)), (146, (.getfield 196, 3)), (149, (.iload_n 3, 1)), (150, (.iconst 0, 1)), (151, (.aload_n 0, 1)), (152, (.getfield 36, 3)), (155, (.getfield 206, 3)), (158, (.invokevirtual 209, 3)), (161, (.pop, 1)), (162, (.iload_n 2, 1)), (163, (.ifCond .ne 13, 3)), (166, (.aload_n 0, 1)), (167, (.getfield 63, 3)), (170, (.getfield 213, 3)), (173, (.goto 13, 3)), (176, (.iload 4, 2)), (178, (.aload_n 0, 1)), (179, (.getfield 63, 3)), (182, (.getfield 216, 3)), (185, (.iadd, 1)), (186, (.ireturn, 1))]
theorem k_F_take : i_F_take.all (fun q => decide (decode b_F_take q.1 = .ok q.2)) = true := by decide +kernel

set_option maxHeartbeats 1000000 in
set_option maxRecDepth 20000 in
theorem c_F_take (l : Launch) (G : GE) (σ : Wd) (pl sp : Nat) (π : PL) (x : ST) (us ks : List ST) (lk : List (Int × (Int × Int))) (tx : List Int) (j : Int) (hC : CR σ pl sp π x us ks lk tx) (hV : VK π x us ks j) (hj : j ≤ 100) (n k : Int) (hn : inR n) (hk : inR k) : Ct l G y_F_take b_F_take 7 (some (.int)) 3 73 [vR 0, vI n, vI k] σ (Rt (some (vI (o_take π x n k))) (fun σ' => CR σ' pl sp π x us ks lk tx ∧ Fc σ σ')) := by
  refine Ct.of cm_F_take (Nat.le_of_ble_eq_true rfl) ?_
  intro X hXl hXG hXN hRm C E
  subst hXl; subst hXG
  have ⟨hn_1, hn_2⟩ := hn
  have ⟨hk_1, hk_2⟩ := hk
  show V X 0 [some (vR 0), some (vI n), some (vI k), none, none, none, none] [] σ
  refine V_R (fun hR => ?_)
  obtain ⟨hF, hsp0, hsp, hne, hx, hU, hK, hl, hT⟩ := id hC
  obtain ⟨ok, xk, usk, ksk, ks2⟩ := id hV
  have hF0 := hF
  obtain ⟨hm_pl, hπ⟩ := hF
  have hπ0 := hπ
  obtain ⟨hpl, e0, e2, e7, e10, eT, eX⟩ := hπ
  obtain ⟨hpl_1, hpl_2, hpl_3, hpl_4, hpl_5, hpl_6⟩ := kd_P hpl
  have ⟨k1, k2, k3, k4, k5, k6, kT, kX⟩ := ok
  have hx0 := hx
  obtain ⟨hs, f0, f1, fQ, fT⟩ := hx
  simp only [Nat.reduceAdd] at fQ fT
  have ⟨x1, x2, x3, x4, xQ, xT⟩ := xk
  have p512 := kd5 hpl
  have s512 := kd5 hsp
  refine V_iload_n (pc := 0) C (dk k_F_take 0 rfl) rfl ?_
  refine V_iconst (pc := 1) C (dk k_F_take 1 rfl) rfl ?_
  refine V_bipush (pc := 2) (n' := 20) C (dk k_F_take 2 rfl) rfl ?_
  refine V_callS (pc := 4) C (dk k_F_take 3 rfl) lk_F_98 cm_F_within sm_F_within (c_F_within _ _ _ n 0 20 hn ⟨by decide, by decide⟩ ⟨by decide, by decide⟩) rfl rfl (Nat.le_of_ble_eq_true rfl) (Rm.mono hRm (by decide) (by decide)) ?_
  refine V_ifeqB (pc := 7) C (dk k_F_take 4 rfl) 19 rfl (fun h1 => ?_) (fun h1 => ?_)
  · skip
    refine V_iconst (pc := 19) C (dk k_F_take 10 rfl) rfl ?_
    refine V_iret (pc := 20) C E (dk k_F_take 11 rfl) ?_
    rw [show o_take π x n k = -1 from if_neg (by omega)]
    exact ⟨rfl, hC, Fc.rf σ⟩
  · skip
    refine V_iload_n (pc := 10) C (dk k_F_take 5 rfl) rfl ?_
    refine V_iconst (pc := 11) C (dk k_F_take 6 rfl) rfl ?_
    refine V_iconst (pc := 12) C (dk k_F_take 7 rfl) rfl ?_
    refine V_callS (pc := 13) C (dk k_F_take 8 rfl) lk_F_98 cm_F_within sm_F_within (c_F_within _ _ _ k 0 1 hk ⟨by decide, by decide⟩ ⟨by decide, by decide⟩) rfl rfl (Nat.le_of_ble_eq_true rfl) (Rm.mono hRm (by decide) (by decide)) ?_
    refine V_ifneB (pc := 16) C (dk k_F_take 9 rfl) 21 rfl (fun h2 => ?_) (fun h2 => ?_)
    · skip
      refine V_iconst (pc := 21) C (dk k_F_take 12 rfl) rfl ?_
      refine V_istore_n (pc := 22) C (dk k_F_take 13 rfl) (by rw [hXN]; decide) ?_
      dsimp only [lst, lstL, lz, kill, Fin.val, Nat.reduceAdd]
      refine V_iconst (pc := 23) C (dk k_F_take 14 rfl) rfl ?_
      refine V_istore (pc := 24) C (dk k_F_take 15 rfl) (by rw [hXN]; decide) ?_
      dsimp only [lst, lstL, lz, kill, Fin.val, Nat.reduceAdd]
      refine V_iconst (pc := 26) C (dk k_F_take 16 rfl) rfl ?_
      refine V_istore (pc := 27) C (dk k_F_take 17 rfl) (by rw [hXN]; decide) ?_
      dsimp only [lst, lstL, lz, kill, Fin.val, Nat.reduceAdd]
      refine V_eq (V_loop (fun q : Nat × Wd => q.1 ≤ pN π ∧ (∀ t : Int, 0 ≤ t → t < q.1 → q.2 118 t = prc π x t ∧ q.2 119 t = come π x n t) ∧ Fr 118 2 σ q.2) (fun q => [some (vR 0), some (vI n), some (vI k), some (vI (bs (takC π x) q.1)), some (vI (there π x n q.1)), some (vI (q.1 : Int)), none]) (fun q => q.2) (fun q => pN π - q.1) (fun q hq ih => ?_) (0, σ) ⟨Nat.zero_le _, fun t a b => by dsimp only at b; omega, Fr.rf _ _ _⟩) rfl rfl rfl
      obtain ⟨i, τ⟩ := q
      obtain ⟨hi, hv, tfr⟩ := hq
      dsimp only at hi hv tfr ih ⊢
      refine V_R (fun hR => ?_)
      have hb := bs_256 (takC π x) (show i ≤ 8 by omega)
      have rpl : ∀ d, d < 7 → τ (pl + d) = σ (pl + d) := fun d hd => tfr _ (by omega)
      have r0 : τ pl = σ pl := tfr _ (by omega)
      have r3 : τ (pl + 3) = σ (pl + 3) := rpl 3 (by omega)
      have r19 : τ 19 = σ 19 := tfr _ (by omega)
      have r23 : τ 23 = σ 23 := tfr _ (by omega)
      refine V_iload (pc := 29) C (dk k_F_take 18 rfl) rfl ?_
      refine V_aload_n (pc := 31) C (dk k_F_take 19 rfl) rfl ?_
      refine V_getm (pc := 32) (o2 := pl) C (dk k_F_take 20 rfl) fl_F_26 kq_0 (by decide) rfl (by rw [tfr 0 (by omega)]; exact hm_pl) ?_
      refine V_geti (pc := 35) (ji := 2) C (dk k_F_take 21 rfl) fl_F_196 hpl (by decide) rfl rfl ?_
      rw [r0]
      refine V_icmpge (pc := 38) C (dk k_F_take 22 rfl) 138 rfl (by first | exact hR _ _ | with_reducible assumption | exact ⟨by omega, by omega⟩) (by first | exact hR _ _ | with_reducible assumption | exact ⟨by omega, by omega⟩) (fun h3 => ?_) (fun h3 => ?_)
      · skip
        obtain rfl : i = pN π := by omega
        have hbb : ∀ t : Int, 0 ≤ t → t < pN π → (-1000 ≤ τ 118 t ∧ τ 118 t ≤ 1000) ∧ (-1000 ≤ τ 119 t ∧ τ 119 t ≤ 1000) := fun t a b => by (obtain ⟨v1, v2⟩ := hv t a b; have ⟨pb0, pb1⟩ := prc_b ok xk a b; obtain ⟨c1, c2, -⟩ := xT t a b; have ⟨cm0, cm1⟩ := cel_b (k := pK π t) (d := sD x) c1 c2 n.toNat; have v3 : τ 119 t = cel (pK π t) (sN x t) (sD x) n.toNat := v2; omega)
        have eP := ssum_e (τ 118) (prc π x) (pN π) (fun t a b => (hv t a b).1)
        have eW := ssum_e (τ 119) (come π x n) (pN π) (fun t a b => (hv t a b).2)
        refine V_aload_n (pc := 138) C (dk k_F_take 70 rfl) rfl ?_
        refine V_getr (pc := 139) (o2 := 117) C (dk k_F_take 71 rfl) fl_F_63 kq_0 (by decide) rfl (by decide) rfl ?_
        refine V_aload_n (pc := 142) C (dk k_F_take 72 rfl) rfl ?_
        refine V_getm (pc := 143) (o2 := pl) C (dk k_F_take 73 rfl) fl_F_26 kq_0 (by decide) rfl (by rw [tfr 0 (by omega)]; exact hm_pl) ?_
        refine V_geti (pc := 146) (ji := 2) C (dk k_F_take 74 rfl) fl_F_196 hpl (by decide) rfl rfl ?_
        refine V_iload_n (pc := 149) C (dk k_F_take 75 rfl) rfl ?_
        refine V_iconst (pc := 150) C (dk k_F_take 76 rfl) rfl ?_
        refine V_aload_n (pc := 151) C (dk k_F_take 77 rfl) rfl ?_
        refine V_getr (pc := 152) (o2 := 19) C (dk k_F_take 78 rfl) fl_F_36 kq_0 (by decide) rfl (by decide) rfl ?_
        refine V_geti (pc := 155) (ji := 1) C (dk k_F_take 79 rfl) fl_F_206 kq_19 (by decide) rfl rfl ?_
        rw [r0, e2, r19, f1, show bs (takC π x) (pN π) = (((bs (takC π x) (pN π)).toNat : Nat) : Int) by omega]
        refine V_callVr (pc := 158) C (dk k_F_take 80 rfl) lk_F_209 cm_C_find vm_C_find (c_C_find _ _ _ (pN π) (bs (takC π x) (pN π)).toNat 0 (sM x) (by omega) (by omega) R0 ⟨by omega, by omega⟩ hbb) kq_117 rfl rfl rfl (Nat.le_of_ble_eq_true rfl) (Rm.mono hRm (by decide) (by decide)) (fun τ2 hq2 => ?_)
        refine V_R (fun hR => ?_)
        rw [eP, eW] at hq2 ⊢
        obtain ⟨hq3, hq5, hq4⟩ := hq2
        have ffr : ∀ k, (k < 117 ∨ 122 ≤ k) → τ2 k = σ k := fun k a => (hq4 k a).trans (tfr k (by omega))
        change V X _ _ [vI (if (takF π x n).isSome = true then 1 else 0)] _
        change ∀ (s : Nat) (v : Int), takF π x n = some (s, v) → τ2 117 4 = s ∧ τ2 117 5 = v at hq3
        change takF π x n = none → τ2 117 4 = 0 ∧ τ2 117 5 = 0 at hq5
        refine V_popI (pc := 161) C (dk k_F_take 81 rfl) ?_
        have ho : o_take π x n k = if k = 0 then τ2 117 4 else there π x n (pN π) + τ2 117 5 := by (unfold o_take; rw [if_pos (by omega)]; cases hc : takF π x n with | none => (obtain ⟨v1, v2⟩ := hq5 hc; rw [v1, v2, Int.add_zero]) | some q => (obtain ⟨s, v⟩ := q; obtain ⟨v1, v2⟩ := hq3 s v hc; rw [v1, v2]))
        refine V_iload_n (pc := 162) C (dk k_F_take 82 rfl) rfl ?_
        refine V_ifne (pc := 163) C (dk k_F_take 83 rfl) 176 rfl (by first | exact hR _ _ | with_reducible assumption | exact ⟨by omega, by omega⟩) (fun h4 => ?_) (fun h4 => ?_)
        · skip
          refine V_iload (pc := 176) C (dk k_F_take 88 rfl) rfl ?_
          refine V_aload_n (pc := 178) C (dk k_F_take 89 rfl) rfl ?_
          refine V_getr (pc := 179) (o2 := 117) C (dk k_F_take 90 rfl) fl_F_63 kq_0 (by decide) rfl (by decide) rfl ?_
          refine V_geti (pc := 182) (ji := 5) C (dk k_F_take 91 rfl) fl_F_216 kq_117 (by decide) rfl rfl ?_
          refine V_iadd (pc := 185) C (dk k_F_take 92 rfl) ?_
          refine V_iret (pc := 186) C E (dk k_F_take 93 rfl) ?_
          rw [ho]
          first | (rw [if_pos (by omega)]; exact ⟨rfl, hC.fr (fun k a => ffr k (by unfold scr at a; omega)), fun k a => ffr k (by omega)⟩) | (rw [if_neg (by omega)]; exact ⟨rfl, hC.fr (fun k a => ffr k (by unfold scr at a; omega)), fun k a => ffr k (by omega)⟩)
        · skip
          refine V_aload_n (pc := 166) C (dk k_F_take 84 rfl) rfl ?_
          refine V_getr (pc := 167) (o2 := 117) C (dk k_F_take 85 rfl) fl_F_63 kq_0 (by decide) rfl (by decide) rfl ?_
          refine V_geti (pc := 170) (ji := 4) C (dk k_F_take 86 rfl) fl_F_213 kq_117 (by decide) rfl rfl ?_
          refine V_goto (pc := 173) C (dk k_F_take 87 rfl) 186 rfl ?_
          refine V_iret (pc := 186) C E (dk k_F_take 93 rfl) ?_
          rw [ho]
          first | (rw [if_pos (by omega)]; exact ⟨rfl, hC.fr (fun k a => ffr k (by unfold scr at a; omega)), fun k a => ffr k (by omega)⟩) | (rw [if_neg (by omega)]; exact ⟨rfl, hC.fr (fun k a => ffr k (by unfold scr at a; omega)), fun k a => ffr k (by omega)⟩)
      · skip
        obtain ⟨gN, gP⟩ := fT i (by omega) (by omega)
        obtain ⟨gO, gK, gU⟩ := eT i (by omega) (by omega)
        obtain ⟨kO0, kO1, kK0, kK1, kU0, kU1⟩ := kT i (by omega) (by omega)
        have hp8 := bs_p8 (show i < 8 by omega)
        have ⟨pb0, pb1⟩ := prc_b ok xk (t := (i : Int)) (by omega) (by omega)
        obtain ⟨xN0, xN1, xP0, xP1, -⟩ := xT i (by omega) (by omega)
        have ⟨cm0, cm1⟩ := cel_b (k := pK π i) (d := sD x) xN0 xN1 n.toNat
        have cm0 : 0 ≤ come π x n i := cm0
        have cm1 : come π x n i ≤ 99 := cm1
        refine V_aload_n (pc := 41) C (dk k_F_take 23 rfl) rfl ?_
        refine V_iload (pc := 42) C (dk k_F_take 24 rfl) rfl ?_
        refine V_aload_n (pc := 44) C (dk k_F_take 25 rfl) rfl ?_
        refine V_getm (pc := 45) (o2 := pl) C (dk k_F_take 26 rfl) fl_F_26 kq_0 (by decide) rfl (by rw [tfr 0 (by omega)]; exact hm_pl) ?_
        refine V_getr (pc := 48) (o2 := pl + 3) C (dk k_F_take 27 rfl) fl_F_134 hpl (by decide) rfl (by decide) rfl ?_
        refine V_iload (pc := 51) C (dk k_F_take 28 rfl) rfl ?_
        refine V_callS (pc := 53) C (dk k_F_take 29 rfl) lk_F_117 cm_F_at sm_F_at (c_at _ _ _ (pl + 3) 8 (i : Int) hpl_3 (by decide) (by omega) (by omega)) rfl rfl (Nat.le_of_ble_eq_true rfl) (Rm.mono hRm (by decide) (by decide)) ?_
        rw [r3, gK]
        refine V_iload_n (pc := 56) C (dk k_F_take 30 rfl) rfl ?_
        refine V_callV (pc := 57) C (dk k_F_take 31 rfl) lk_F_185 cm_F_nearInCellar vm_F_nearInCellar (c_F_nearInCellar _ _ _ pl π x j i (pK π i) n (hF0.fr (tfr 0 (by omega)) (fun k a b => tfr k (by omega))) ok (hx0.fr (fun k a b => tfr k (by omega))) xk (by omega) (by omega) (by omega) ⟨by omega, by omega⟩ (by omega) (by omega)) kq_0 rfl rfl rfl (Nat.le_of_ble_eq_true rfl) (Rm.mono hRm (by decide) (by decide)) ?_
        change V X _ _ [vI (come π x n i)] _
        refine V_istore (pc := 60) C (dk k_F_take 32 rfl) (by rw [hXN]; decide) ?_
        dsimp only [lst, lstL, lz, kill, Fin.val, Nat.reduceAdd]
        refine V_aload_n (pc := 62) C (dk k_F_take 33 rfl) rfl ?_
        refine V_getr (pc := 63) (o2 := 19) C (dk k_F_take 34 rfl) fl_F_36 kq_0 (by decide) rfl (by decide) rfl ?_
        refine V_getr (pc := 66) (o2 := 23) C (dk k_F_take 35 rfl) fl_F_143 kq_19 (by decide) rfl (by decide) rfl ?_
        refine V_iload (pc := 69) C (dk k_F_take 36 rfl) rfl ?_
        refine V_callS (pc := 71) C (dk k_F_take 37 rfl) lk_F_117 cm_F_at sm_F_at (c_at _ _ _ (23) 8 (i : Int) kq_23 (by decide) (by omega) (by omega)) rfl rfl (Nat.le_of_ble_eq_true rfl) (Rm.mono hRm (by decide) (by decide)) ?_
        rw [r23, gP]
        refine V_iconst (pc := 74) C (dk k_F_take 38 rfl) rfl ?_
        refine V_icmpne (pc := 75) C (dk k_F_take 39 rfl) 85 rfl (by first | exact hR _ _ | with_reducible assumption | exact ⟨by omega, by omega⟩) (by first | exact hR _ _ | with_reducible assumption | exact ⟨by omega, by omega⟩) (fun h5 => ?_) (fun h5 => ?_)
        · skip
          refine V_aload_n (pc := 85) C (dk k_F_take 44 rfl) rfl ?_
          refine V_getr (pc := 86) (o2 := 19) C (dk k_F_take 45 rfl) fl_F_36 kq_0 (by decide) rfl (by decide) rfl ?_
          refine V_aload_n (pc := 89) C (dk k_F_take 46 rfl) rfl ?_
          refine V_getm (pc := 90) (o2 := pl) C (dk k_F_take 47 rfl) fl_F_26 kq_0 (by decide) rfl (by rw [tfr 0 (by omega)]; exact hm_pl) ?_
          refine V_iload (pc := 93) C (dk k_F_take 48 rfl) rfl ?_
          refine V_callV (pc := 95) C (dk k_F_take 49 rfl) lk_F_199 cm_S_isOffered vm_S_isOffered (c_S_isOffered _ _ _ 19 pl π x j i (hπ0.fr (fun k a b => tfr k (by omega))) ok (hx0.fr (fun k a b => tfr k (by omega))) xk (by omega) (by omega) (by omega)) kq_19 rfl rfl rfl (Nat.le_of_ble_eq_true rfl) (Rm.mono hRm (by decide) (by decide)) ?_
          refine V_ifeqB (pc := 98) C (dk k_F_take 50 rfl) 108 rfl (fun h6 => ?_) (fun h6 => ?_)
          · skip
            refine V_aload_n (pc := 108) C (dk k_F_take 57 rfl) rfl ?_
            refine V_getr (pc := 109) (o2 := 117) C (dk k_F_take 58 rfl) fl_F_63 kq_0 (by decide) rfl (by decide) rfl ?_
            refine V_iload (pc := 112) C (dk k_F_take 59 rfl) rfl ?_
            refine V_aload_n (pc := 114) C (dk k_F_take 60 rfl) rfl ?_
            refine V_getr (pc := 115) (o2 := 19) C (dk k_F_take 61 rfl) fl_F_36 kq_0 (by decide) rfl (by decide) rfl ?_
            refine V_aload_n (pc := 118) C (dk k_F_take 62 rfl) rfl ?_
            refine V_getm (pc := 119) (o2 := pl) C (dk k_F_take 63 rfl) fl_F_26 kq_0 (by decide) rfl (by rw [tfr 0 (by omega)]; exact hm_pl) ?_
            refine V_iload (pc := 122) C (dk k_F_take 64 rfl) rfl ?_
            refine V_callV (pc := 124) C (dk k_F_take 65 rfl) lk_F_146 cm_S_price vm_S_price (c_S_price _ _ _ 19 pl π x j i (hπ0.fr (fun k a b => tfr k (by omega))) ok (hx0.fr (fun k a b => tfr k (by omega))) xk (by omega) (by omega) (by omega)) kq_19 rfl rfl rfl (Nat.le_of_ble_eq_true rfl) (Rm.mono hRm (by decide) (by decide)) ?_
            refine V_iload (pc := 127) C (dk k_F_take 66 rfl) rfl ?_
            refine V_callV0 (pc := 129) C (dk k_F_take 67 rfl) lk_F_202 cm_C_offer vm_C_offer (c_C_offer _ _ _ i (prc π x i) (come π x n i) (by omega) (by omega) ⟨by omega, by omega⟩ ⟨by omega, by omega⟩) kq_117 rfl rfl rfl (Nat.le_of_ble_eq_true rfl) (Rm.mono hRm (by decide) (by decide)) ?_
            refine V_R (fun hR => ?_)
            refine V_iinc (pc := 132) C (dk k_F_take 68 rfl) (by rw [hXN]; decide) rfl ?_
            dsimp only [lst, lstL, lz, kill, Fin.val, Nat.reduceAdd]
            refine V_goto (pc := 135) C (dk k_F_take 69 rfl) 29 rfl ?_
            refine V_fg 6 ?_
            dsimp only [fg]
            refine V_eq (ih (i + 1, up (up τ 118 (i : Int) (prc π x i)) 119 (i : Int) (come π x n i)) ⟨by dsimp only; omega, fun t a b => ?_, (tfr.up _ _ (by omega) (by omega)).up _ _ (by omega) (by omega)⟩ (by dsimp only; omega)) ?_ rfl rfl
            · dsimp only at b ⊢
              by_cases ht : t = i
              · subst ht; exact ⟨(up_ne1 _ _ _ _ (by decide)).trans (up_at _ _ _ _), up_at _ _ _ _⟩
              · simp (disch := omega) only [up_ne1, up_ne2]; exact hv t a (by omega)
            · have hth : there π x n (i + 1) = there π x n i + (if sP x i = 1 then come π x n i else 0) := rfl
              rw [bs_s, hth]
              first | rw [if_pos (show takC π x (i : Int) = true from decide_eq_true ⟨by omega, by omega⟩), ← bs_or] | rw [if_neg (show ¬ takC π x (i : Int) = true from fun z => by have := of_decide_eq_true z; omega), Int.add_zero]
              first | (rw [if_pos (show sP x (i : Int) = 1 by omega)]; rfl) | (rw [if_neg (show ¬ sP x (i : Int) = 1 by omega), Int.add_zero]; rfl)
          · skip
            refine V_iload_n (pc := 101) C (dk k_F_take 51 rfl) rfl ?_
            refine V_iconst (pc := 102) C (dk k_F_take 52 rfl) rfl ?_
            refine V_iload (pc := 103) C (dk k_F_take 53 rfl) rfl ?_
            refine V_ishl (pc := 105) C (dk k_F_take 54 rfl) (by omega) (by omega) (by omega) hp8.1 ?_
            refine V_ior (pc := 106) C (dk k_F_take 55 rfl) ⟨by omega, by omega⟩ ⟨by omega, by omega⟩ (by omega) (by omega) ?_
            refine V_istore_n (pc := 107) C (dk k_F_take 56 rfl) (by rw [hXN]; decide) ?_
            dsimp only [lst, lstL, lz, kill, Fin.val, Nat.reduceAdd]
            refine V_aload_n (pc := 108) C (dk k_F_take 57 rfl) rfl ?_
            refine V_getr (pc := 109) (o2 := 117) C (dk k_F_take 58 rfl) fl_F_63 kq_0 (by decide) rfl (by decide) rfl ?_
            refine V_iload (pc := 112) C (dk k_F_take 59 rfl) rfl ?_
            refine V_aload_n (pc := 114) C (dk k_F_take 60 rfl) rfl ?_
            refine V_getr (pc := 115) (o2 := 19) C (dk k_F_take 61 rfl) fl_F_36 kq_0 (by decide) rfl (by decide) rfl ?_
            refine V_aload_n (pc := 118) C (dk k_F_take 62 rfl) rfl ?_
            refine V_getm (pc := 119) (o2 := pl) C (dk k_F_take 63 rfl) fl_F_26 kq_0 (by decide) rfl (by rw [tfr 0 (by omega)]; exact hm_pl) ?_
            refine V_iload (pc := 122) C (dk k_F_take 64 rfl) rfl ?_
            refine V_callV (pc := 124) C (dk k_F_take 65 rfl) lk_F_146 cm_S_price vm_S_price (c_S_price _ _ _ 19 pl π x j i (hπ0.fr (fun k a b => tfr k (by omega))) ok (hx0.fr (fun k a b => tfr k (by omega))) xk (by omega) (by omega) (by omega)) kq_19 rfl rfl rfl (Nat.le_of_ble_eq_true rfl) (Rm.mono hRm (by decide) (by decide)) ?_
            refine V_iload (pc := 127) C (dk k_F_take 66 rfl) rfl ?_
            refine V_callV0 (pc := 129) C (dk k_F_take 67 rfl) lk_F_202 cm_C_offer vm_C_offer (c_C_offer _ _ _ i (prc π x i) (come π x n i) (by omega) (by omega) ⟨by omega, by omega⟩ ⟨by omega, by omega⟩) kq_117 rfl rfl rfl (Nat.le_of_ble_eq_true rfl) (Rm.mono hRm (by decide) (by decide)) ?_
            refine V_R (fun hR => ?_)
            refine V_iinc (pc := 132) C (dk k_F_take 68 rfl) (by rw [hXN]; decide) rfl ?_
            dsimp only [lst, lstL, lz, kill, Fin.val, Nat.reduceAdd]
            refine V_goto (pc := 135) C (dk k_F_take 69 rfl) 29 rfl ?_
            refine V_fg 6 ?_
            dsimp only [fg]
            refine V_eq (ih (i + 1, up (up τ 118 (i : Int) (prc π x i)) 119 (i : Int) (come π x n i)) ⟨by dsimp only; omega, fun t a b => ?_, (tfr.up _ _ (by omega) (by omega)).up _ _ (by omega) (by omega)⟩ (by dsimp only; omega)) ?_ rfl rfl
            · dsimp only at b ⊢
              by_cases ht : t = i
              · subst ht; exact ⟨(up_ne1 _ _ _ _ (by decide)).trans (up_at _ _ _ _), up_at _ _ _ _⟩
              · simp (disch := omega) only [up_ne1, up_ne2]; exact hv t a (by omega)
            · have hth : there π x n (i + 1) = there π x n i + (if sP x i = 1 then come π x n i else 0) := rfl
              rw [bs_s, hth]
              first | rw [if_pos (show takC π x (i : Int) = true from decide_eq_true ⟨by omega, by omega⟩), ← bs_or] | rw [if_neg (show ¬ takC π x (i : Int) = true from fun z => by have := of_decide_eq_true z; omega), Int.add_zero]
              first | (rw [if_pos (show sP x (i : Int) = 1 by omega)]; rfl) | (rw [if_neg (show ¬ sP x (i : Int) = 1 by omega), Int.add_zero]; rfl)
        · skip
          refine V_iload (pc := 78) C (dk k_F_take 40 rfl) rfl ?_
          refine V_iload (pc := 80) C (dk k_F_take 41 rfl) rfl ?_
          refine V_iadd (pc := 82) C (dk k_F_take 42 rfl) ?_
          refine V_istore (pc := 83) C (dk k_F_take 43 rfl) (by rw [hXN]; decide) ?_
          dsimp only [lst, lstL, lz, kill, Fin.val, Nat.reduceAdd]
          refine V_aload_n (pc := 85) C (dk k_F_take 44 rfl) rfl ?_
          refine V_getr (pc := 86) (o2 := 19) C (dk k_F_take 45 rfl) fl_F_36 kq_0 (by decide) rfl (by decide) rfl ?_
          refine V_aload_n (pc := 89) C (dk k_F_take 46 rfl) rfl ?_
          refine V_getm (pc := 90) (o2 := pl) C (dk k_F_take 47 rfl) fl_F_26 kq_0 (by decide) rfl (by rw [tfr 0 (by omega)]; exact hm_pl) ?_
          refine V_iload (pc := 93) C (dk k_F_take 48 rfl) rfl ?_
          refine V_callV (pc := 95) C (dk k_F_take 49 rfl) lk_F_199 cm_S_isOffered vm_S_isOffered (c_S_isOffered _ _ _ 19 pl π x j i (hπ0.fr (fun k a b => tfr k (by omega))) ok (hx0.fr (fun k a b => tfr k (by omega))) xk (by omega) (by omega) (by omega)) kq_19 rfl rfl rfl (Nat.le_of_ble_eq_true rfl) (Rm.mono hRm (by decide) (by decide)) ?_
          refine V_ifeqB (pc := 98) C (dk k_F_take 50 rfl) 108 rfl (fun h7 => ?_) (fun h7 => ?_)
          · skip
            refine V_aload_n (pc := 108) C (dk k_F_take 57 rfl) rfl ?_
            refine V_getr (pc := 109) (o2 := 117) C (dk k_F_take 58 rfl) fl_F_63 kq_0 (by decide) rfl (by decide) rfl ?_
            refine V_iload (pc := 112) C (dk k_F_take 59 rfl) rfl ?_
            refine V_aload_n (pc := 114) C (dk k_F_take 60 rfl) rfl ?_
            refine V_getr (pc := 115) (o2 := 19) C (dk k_F_take 61 rfl) fl_F_36 kq_0 (by decide) rfl (by decide) rfl ?_
            refine V_aload_n (pc := 118) C (dk k_F_take 62 rfl) rfl ?_
            refine V_getm (pc := 119) (o2 := pl) C (dk k_F_take 63 rfl) fl_F_26 kq_0 (by decide) rfl (by rw [tfr 0 (by omega)]; exact hm_pl) ?_
            refine V_iload (pc := 122) C (dk k_F_take 64 rfl) rfl ?_
            refine V_callV (pc := 124) C (dk k_F_take 65 rfl) lk_F_146 cm_S_price vm_S_price (c_S_price _ _ _ 19 pl π x j i (hπ0.fr (fun k a b => tfr k (by omega))) ok (hx0.fr (fun k a b => tfr k (by omega))) xk (by omega) (by omega) (by omega)) kq_19 rfl rfl rfl (Nat.le_of_ble_eq_true rfl) (Rm.mono hRm (by decide) (by decide)) ?_
            refine V_iload (pc := 127) C (dk k_F_take 66 rfl) rfl ?_
            refine V_callV0 (pc := 129) C (dk k_F_take 67 rfl) lk_F_202 cm_C_offer vm_C_offer (c_C_offer _ _ _ i (prc π x i) (come π x n i) (by omega) (by omega) ⟨by omega, by omega⟩ ⟨by omega, by omega⟩) kq_117 rfl rfl rfl (Nat.le_of_ble_eq_true rfl) (Rm.mono hRm (by decide) (by decide)) ?_
            refine V_R (fun hR => ?_)
            refine V_iinc (pc := 132) C (dk k_F_take 68 rfl) (by rw [hXN]; decide) rfl ?_
            dsimp only [lst, lstL, lz, kill, Fin.val, Nat.reduceAdd]
            refine V_goto (pc := 135) C (dk k_F_take 69 rfl) 29 rfl ?_
            refine V_fg 6 ?_
            dsimp only [fg]
            refine V_eq (ih (i + 1, up (up τ 118 (i : Int) (prc π x i)) 119 (i : Int) (come π x n i)) ⟨by dsimp only; omega, fun t a b => ?_, (tfr.up _ _ (by omega) (by omega)).up _ _ (by omega) (by omega)⟩ (by dsimp only; omega)) ?_ rfl rfl
            · dsimp only at b ⊢
              by_cases ht : t = i
              · subst ht; exact ⟨(up_ne1 _ _ _ _ (by decide)).trans (up_at _ _ _ _), up_at _ _ _ _⟩
              · simp (disch := omega) only [up_ne1, up_ne2]; exact hv t a (by omega)
            · have hth : there π x n (i + 1) = there π x n i + (if sP x i = 1 then come π x n i else 0) := rfl
              rw [bs_s, hth]
              first | rw [if_pos (show takC π x (i : Int) = true from decide_eq_true ⟨by omega, by omega⟩), ← bs_or] | rw [if_neg (show ¬ takC π x (i : Int) = true from fun z => by have := of_decide_eq_true z; omega), Int.add_zero]
              first | (rw [if_pos (show sP x (i : Int) = 1 by omega)]; rfl) | (rw [if_neg (show ¬ sP x (i : Int) = 1 by omega), Int.add_zero]; rfl)
          · skip
            refine V_iload_n (pc := 101) C (dk k_F_take 51 rfl) rfl ?_
            refine V_iconst (pc := 102) C (dk k_F_take 52 rfl) rfl ?_
            refine V_iload (pc := 103) C (dk k_F_take 53 rfl) rfl ?_
            refine V_ishl (pc := 105) C (dk k_F_take 54 rfl) (by omega) (by omega) (by omega) hp8.1 ?_
            refine V_ior (pc := 106) C (dk k_F_take 55 rfl) ⟨by omega, by omega⟩ ⟨by omega, by omega⟩ (by omega) (by omega) ?_
            refine V_istore_n (pc := 107) C (dk k_F_take 56 rfl) (by rw [hXN]; decide) ?_
            dsimp only [lst, lstL, lz, kill, Fin.val, Nat.reduceAdd]
            refine V_aload_n (pc := 108) C (dk k_F_take 57 rfl) rfl ?_
            refine V_getr (pc := 109) (o2 := 117) C (dk k_F_take 58 rfl) fl_F_63 kq_0 (by decide) rfl (by decide) rfl ?_
            refine V_iload (pc := 112) C (dk k_F_take 59 rfl) rfl ?_
            refine V_aload_n (pc := 114) C (dk k_F_take 60 rfl) rfl ?_
            refine V_getr (pc := 115) (o2 := 19) C (dk k_F_take 61 rfl) fl_F_36 kq_0 (by decide) rfl (by decide) rfl ?_
            refine V_aload_n (pc := 118) C (dk k_F_take 62 rfl) rfl ?_
            refine V_getm (pc := 119) (o2 := pl) C (dk k_F_take 63 rfl) fl_F_26 kq_0 (by decide) rfl (by rw [tfr 0 (by omega)]; exact hm_pl) ?_
            refine V_iload (pc := 122) C (dk k_F_take 64 rfl) rfl ?_
            refine V_callV (pc := 124) C (dk k_F_take 65 rfl) lk_F_146 cm_S_price vm_S_price (c_S_price _ _ _ 19 pl π x j i (hπ0.fr (fun k a b => tfr k (by omega))) ok (hx0.fr (fun k a b => tfr k (by omega))) xk (by omega) (by omega) (by omega)) kq_19 rfl rfl rfl (Nat.le_of_ble_eq_true rfl) (Rm.mono hRm (by decide) (by decide)) ?_
            refine V_iload (pc := 127) C (dk k_F_take 66 rfl) rfl ?_
            refine V_callV0 (pc := 129) C (dk k_F_take 67 rfl) lk_F_202 cm_C_offer vm_C_offer (c_C_offer _ _ _ i (prc π x i) (come π x n i) (by omega) (by omega) ⟨by omega, by omega⟩ ⟨by omega, by omega⟩) kq_117 rfl rfl rfl (Nat.le_of_ble_eq_true rfl) (Rm.mono hRm (by decide) (by decide)) ?_
            refine V_R (fun hR => ?_)
            refine V_iinc (pc := 132) C (dk k_F_take 68 rfl) (by rw [hXN]; decide) rfl ?_
            dsimp only [lst, lstL, lz, kill, Fin.val, Nat.reduceAdd]
            refine V_goto (pc := 135) C (dk k_F_take 69 rfl) 29 rfl ?_
            refine V_fg 6 ?_
            dsimp only [fg]
            refine V_eq (ih (i + 1, up (up τ 118 (i : Int) (prc π x i)) 119 (i : Int) (come π x n i)) ⟨by dsimp only; omega, fun t a b => ?_, (tfr.up _ _ (by omega) (by omega)).up _ _ (by omega) (by omega)⟩ (by dsimp only; omega)) ?_ rfl rfl
            · dsimp only at b ⊢
              by_cases ht : t = i
              · subst ht; exact ⟨(up_ne1 _ _ _ _ (by decide)).trans (up_at _ _ _ _), up_at _ _ _ _⟩
              · simp (disch := omega) only [up_ne1, up_ne2]; exact hv t a (by omega)
            · have hth : there π x n (i + 1) = there π x n i + (if sP x i = 1 then come π x n i else 0) := rfl
              rw [bs_s, hth]
              first | rw [if_pos (show takC π x (i : Int) = true from decide_eq_true ⟨by omega, by omega⟩), ← bs_or] | rw [if_neg (show ¬ takC π x (i : Int) = true from fun z => by have := of_decide_eq_true z; omega), Int.add_zero]
              first | (rw [if_pos (show sP x (i : Int) = 1 by omega)]; rfl) | (rw [if_neg (show ¬ sP x (i : Int) = 1 by omega), Int.add_zero]; rfl)
    · skip
      refine V_iconst (pc := 19) C (dk k_F_take 10 rfl) rfl ?_
      refine V_iret (pc := 20) C E (dk k_F_take 11 rfl) ?_
      rw [show o_take π x n k = -1 from if_neg (by omega)]
      exact ⟨rfl, hC, Fc.rf σ⟩
