def drw (z k : Int) : Int := (7919 * z + 6151 * k + 1) * (7919 * z + 6151 * k + 1) % 65521
theorem drw_b (z k : Int) : 0 ≤ drw z k ∧ drw z k < 65521 := ⟨Int.emod_nonneg _ (by decide), Int.emod_lt_of_pos _ (by decide)⟩
/-- what is done ahead of a day of a year -/
def actX (π : PL) (x : ST) (z k : Int) : ST :=
  if pN π = 0 then x else
    if drw z k % 8 ≤ 3 ∧ ((sP x (drw z k / 8 % pN π) = 0 ∧ pL π ≤ sN x (drw z k / 8 % pN π)) ∧ prc π x (drw z k / 8 % pN π) ≤ sM x) then sellX π x (drw z k / 8 % pN π)
    else if (drw z k % 8 = 4 ∨ drw z k % 8 = 5) ∧ (sP x (drw z k / 8 % pN π) = 1 ∧ prc π x (drw z k / 8 % pN π) ≤ sG x (pO π (drw z k / 8 % pN π))) then buyX π x (drw z k / 8 % pN π)
    else x
def yearX (π : PL) (x : ST) (z : Int) : Nat → ST
  | 0 => x
  | k + 1 => dayX π (actX π (yearX π x z k) z k)
def o_year (π : PL) (x : ST) (z n k : Int) : Int := if (0 ≤ z ∧ z ≤ 9999) ∧ (1 ≤ n ∧ n ≤ 60) ∧ (0 ≤ k ∧ k ≤ 1) then (if k = 0 then cellar π (yearX π x z n.toNat) else sm (fun q => sR (yearX π x z n.toNat) q) (pP π)) else -1
theorem sell_ok {π : PL} {x : ST} {j e t : Int} (ok : PLok π) (h : STd π x j e) (t0 : 0 ≤ t) (t1 : t < pN π) (hs : sP x t = 0) (hp0 : 0 ≤ prc π x t) (hp1 : prc π x t ≤ 891) (hp : prc π x t ≤ sM x) : STd π (sellX π x t) (j + 1) (e - 24) := by
  obtain ⟨h1, h2, h3, h4, hQ, hT⟩ := h
  refine ⟨h1, ?_, ?_, ?_, fun q a b => ?_, fun u a b => ?_⟩
  · show sD x ≤ _; omega
  · show 0 ≤ sM x - _; omega
  · show sM x - _ ≤ _; omega
  · obtain ⟨g1, g2, g3, g4⟩ := hQ q a b
    show 0 ≤ fu (sG x) _ _ q ∧ fu (sG x) _ _ q ≤ _ ∧ 0 ≤ sR x q ∧ sR x q ≤ 160 * sD x
    unfold fu
    split
    · rename_i hq; rw [hq] at g1 g2; omega
    · omega
  · obtain ⟨g1, g2, g3, g4, g5⟩ := hT u a b
    show 0 ≤ sN x u ∧ sN x u ≤ 99 ∧ 0 ≤ fu (sP x) t 1 u ∧ fu (sP x) t 1 u ≤ 2 ∧ (fu (sP x) t 1 u = 2 ↔ sN x u = 0)
    unfold fu
    split
    · rename_i hu; rw [hu] at g1 g2 g5 ⊢; omega
    · omega
theorem buy_ok {π : PL} {x : ST} {j e t : Int} (ok : PLok π) (h : STd π x j e) (t0 : 0 ≤ t) (t1 : t < pN π) (hs : sP x t = 1) (hp0 : 0 ≤ prc π x t) (hp1 : prc π x t ≤ 891) (hp : prc π x t ≤ sG x (pO π t)) : STd π (buyX π x t) (j + 1) (e - 24) := by
  obtain ⟨h1, h2, h3, h4, hQ, hT⟩ := h
  refine ⟨h1, ?_, ?_, ?_, fun q a b => ?_, fun u a b => ?_⟩
  · show sD x ≤ _; omega
  · show 0 ≤ sM x + _; omega
  · show sM x + _ ≤ _; omega
  · obtain ⟨g1, g2, g3, g4⟩ := hQ q a b
    show 0 ≤ fu (sG x) _ _ q ∧ fu (sG x) _ _ q ≤ _ ∧ 0 ≤ sR x q ∧ sR x q ≤ 160 * sD x
    unfold fu
    split
    · rename_i hq; rw [hq] at g1 g2; omega
    · omega
  · obtain ⟨g1, g2, g3, g4, g5⟩ := hT u a b
    show 0 ≤ sN x u ∧ sN x u ≤ 99 ∧ 0 ≤ fu (sP x) t 0 u ∧ fu (sP x) t 0 u ≤ 2 ∧ (fu (sP x) t 0 u = 2 ↔ sN x u = 0)
    unfold fu
    split
    · rename_i hu; rw [hu] at g1 g2 g5 ⊢; omega
    · omega
theorem STd.up1 {π : PL} {x : ST} {j e : Int} (h : STd π x j e) : STd π x (j + 1) (e - 24) := by
  obtain ⟨a, b, c, d, e, f⟩ := h
  exact ⟨a, by omega, c, by omega, fun q h0 h1 => by have := e q h0 h1; omega, f⟩
theorem STd.prc {π : PL} {x : ST} {j e t : Int} (ok : PLok π) (h : STd π x j e) (h0 : 0 ≤ t) (h1 : t < pN π) : 0 ≤ prc π x t ∧ prc π x t ≤ 891 := by
  obtain ⟨a1, a2⟩ := rt_b ok (d := sD x)
  obtain ⟨b1, b2, -⟩ := h.2.2.2.2.2 t h0 h1
  show 0 ≤ sN x t * rt π (sD x) ∧ sN x t * rt π (sD x) ≤ 891
  exact ⟨Int.mul_nonneg b1 a1, Int.le_trans (Int.mul_le_mul b2 a2 a1 (by omega)) (by omega)⟩
theorem act_ok {π : PL} {x : ST} {j e z k : Int} (ok : PLok π) (h : STd π x j e) : STd π (actX π x z k) (j + 1) (e - 24) := by
  unfold actX
  split
  · exact h.up1
  · rename_i hN
    have t0 := Int.emod_nonneg (drw z k / 8) (b := (pN π : Int)) (by omega)
    have t1 := Int.emod_lt_of_pos (drw z k / 8) (b := (pN π : Int)) (by omega)
    have ⟨p0, p1⟩ := h.prc ok t0 t1
    split
    · rename_i hs; exact sell_ok ok h t0 t1 hs.2.1.1 p0 p1 hs.2.2
    · split
      · rename_i hb; exact buy_ok ok h t0 t1 hb.2.1 p0 p1 hb.2.2
      · exact h.up1
theorem year_ok {π : PL} {x : ST} {j z : Int} (ok : PLok π) (h : STok π x j) : ∀ k : Nat, STok π (yearX π x z k) (j + k)
  | 0 => by
    have h2 : STok π x (j + ((0 : Nat) : Int)) := h.up (by omega)
    exact h2
  | k + 1 => by
    have h1 := day_ok ok (act_ok (z := z) (k := (k : Int)) ok (year_ok (z := z) ok h k).d)
    exact h1.ok (by omega) (by omega)

def i_F_actByDraw : List (Nat × (Instr × Nat)) := [(0, (.aload_n 0, 1)), (1, (.getfield 26, 3)), (4, (.getfield 196, 3)), (7, (.ifCond .gt 4, 3)), (10, (.return_, 1)), (11, (.ldc2_w 276, 3)), (14, (.iload_n 1, 1)), (15, (.i2l, 1)), (16, (.lmul, 1)), (17, (.ldc2_w 278, 3)), (20, (.iload_n 2, 1)), (21, (.i2l, 1)), (22, (.lmul, 1)), (23, (.ladd, 1)), (24, (.lconst 1, 1)), (25, (.ladd, 1)), (26, (.lstore_n 3, 1)), (27, (.lload_n 3, 1)), (28, (.lload_n 3, 1)), (29, (.lmul, 1)), (30, (.ldc2_w 280, 3)), (33, (.lrem, 1)), (34, (.l2i, 1)), (35, (.istore 5, 2)), (37, (.iload 5, 2)), (39, (.bipush 8, 2)), (41, (.idiv, 1)), (42, (.aload_n 0, 1)), (43, (.getfield 26, 3)), (46, (.getfield 196, 3)), (49, (.irem, 1)), (50, (.istore 6, 2)), (52, (.iload 5, 2)), (54, (.bipush 8, 2)), (56, (.irem, 1)), (57, (.istore 7, 2)), (59, (.iload 7, 2)), (61, (.iconst 3, 1)), (62, (.if_icmp .gt 35, 3)), (65, (.aload_n 0, 1)), (66, (.getfield 40, 3)), (69, (.aload_n 0, 1)), (70, (.getfield 26, 3)), (73, (.iload 6, 2)), (75, (.invokevirtual 156, 3)), (78, (.ifCond .eq 19, 3)), (81, (.aload_n 0, 1)), (82, (.getfield 40, 3)), (85, (.aload_n 0, 1)), (86, (.getfield 26, 3)), (89, (.iload 6, 2)), (91, (.invokevirtual 164, 3)), (94, (.goto 44, 3)), (97, (.iload 7, 2)), (99, (.iconst 4, 1)), (100, (.if_icmp .eq 9, 3)), (103, (.iload 7, 2)), (105, (.iconst 5, 1)), (106, (.if_icmp .ne 32, 3)), (109, (.aload_n 0, 1)), (110, (.getfield 40, 3)), (113, (.aload_n 0, 1)), (114, (.getfield 26, 3)), (117, (.iload 6, 2)), (119, (.invokevirtual 168, 3)), (122, (.ifCond .eq 16, 3)), (125, (.aload_n 0, 1)), (126, (.getfield 40, 3)), (129, (.aload_n 0, 1)), (130, (.getfield 26, 3)), (133, (.iload 6, 2)), (135, (.invokevirtual 171, 3)), (138, (.return_, 1))]
theorem k_F_actByDraw : i_F_actByDraw.all (fun q => decide (decode b_F_actByDraw q.1 = .ok q.2)) = true := by decide +kernel

set_option maxHeartbeats 1000000 in
set_option maxRecDepth 20000 in
theorem c_F_actByDraw (l : Launch) (G : GE) (σ : Wd) (pl : Nat) (π : PL) (x : ST) (j z k : Int) (hF : FR σ pl π) (ok : PLok π) (hx : StR σ 24 π x) (xk : STok π x j) (hj : j ≤ 200) (hz0 : 0 ≤ z) (hz1 : z ≤ 9999) (hk0 : 0 ≤ k) (hk1 : k ≤ 60) : Ct l G y_F_actByDraw b_F_actByDraw 8 (none) 4 86 [vR 0, vI z, vI k] σ (Rt none (fun σ' => StR σ' 24 π (actX π x z k) ∧ Fr 24 5 σ σ')) := by
  refine Ct.of cm_F_actByDraw (Nat.le_of_ble_eq_true rfl) ?_
  intro X hXl hXG hXN hRm C E
  subst hXl; subst hXG
  show V X 0 [some (vR 0), some (vI z), some (vI k), none, none, none, none, none] [] σ
  refine V_R (fun hR => ?_)
  obtain ⟨hm_pl, hπ⟩ := hF
  have hπ0 := hπ
  obtain ⟨hpl, e0, e2, e7, e10, eT, eX⟩ := hπ
  obtain ⟨hpl_1, hpl_2, hpl_3, hpl_4, hpl_5, hpl_6⟩ := kd_P hpl
  have ⟨k1, k2, k3, k4, k5, k6, kT, kX⟩ := ok
  have hx0 := hx
  obtain ⟨hs, f0, f1, fQ, fT⟩ := hx
  have ⟨x1, x2, x3, x4, xQ, xT⟩ := xk
  have ⟨d0, d1⟩ := drw_b z k
  refine V_aload_n (pc := 0) C (dk k_F_actByDraw 0 rfl) rfl ?_
  refine V_getm (pc := 1) (o2 := pl) C (dk k_F_actByDraw 1 rfl) fl_F_26 kq_0 (by decide) rfl hm_pl ?_
  refine V_geti (pc := 4) (ji := 2) C (dk k_F_actByDraw 2 rfl) fl_F_196 hpl (by decide) rfl rfl ?_
  refine V_ifgt (pc := 7) C (dk k_F_actByDraw 3 rfl) 11 rfl (by first | exact hR _ _ | with_reducible assumption | exact ⟨by omega, by omega⟩) (fun h1 => ?_) (fun h1 => ?_)
  · skip
    refine V_ldc2 (pc := 11) (n' := 7919) C (dk k_F_actByDraw 5 rfl) kc_F_276 rfl ?_
    refine V_iload_n (pc := 14) C (dk k_F_actByDraw 6 rfl) rfl ?_
    refine V_i2l (pc := 15) C (dk k_F_actByDraw 7 rfl) (by first | exact hR _ _ | with_reducible assumption | exact ⟨by omega, by omega⟩) ?_
    refine V_lmul (pc := 16) C (dk k_F_actByDraw 8 rfl) ?_
    refine V_ldc2 (pc := 17) (n' := 6151) C (dk k_F_actByDraw 9 rfl) kc_F_278 rfl ?_
    refine V_iload_n (pc := 20) C (dk k_F_actByDraw 10 rfl) rfl ?_
    refine V_i2l (pc := 21) C (dk k_F_actByDraw 11 rfl) (by first | exact hR _ _ | with_reducible assumption | exact ⟨by omega, by omega⟩) ?_
    refine V_lmul (pc := 22) C (dk k_F_actByDraw 12 rfl) ?_
    refine V_ladd (pc := 23) C (dk k_F_actByDraw 13 rfl) ?_
    refine V_lconst (pc := 24) (n' := 1) C (dk k_F_actByDraw 14 rfl) rfl ?_
    refine V_ladd (pc := 25) C (dk k_F_actByDraw 15 rfl) ?_
    have y0 : 0 ≤ 7919 * z + 6151 * k + 1 := by omega
    have y1 : 7919 * z + 6151 * k + 1 ≤ 80000000 := by omega
    have yy : (7919 * z + 6151 * k + 1) * (7919 * z + 6151 * k + 1) ≤ 80000000 * 80000000 := Int.mul_le_mul y1 y1 y0 (by omega)
    have yz : 0 ≤ (7919 * z + 6151 * k + 1) * (7919 * z + 6151 * k + 1) := Int.mul_nonneg y0 y0
    refine V_lstore_n (pc := 26) C (dk k_F_actByDraw 16 rfl) (by rw [hXN]; decide) ?_
    dsimp only [lst, lstL, lz, kill, Fin.val, Nat.reduceAdd]
    refine V_lload_n (pc := 27) C (dk k_F_actByDraw 17 rfl) rfl ?_
    refine V_lload_n (pc := 28) C (dk k_F_actByDraw 18 rfl) rfl ?_
    refine V_lmul (pc := 29) C (dk k_F_actByDraw 19 rfl) ?_
    refine V_ldc2 (pc := 30) (n' := 65521) C (dk k_F_actByDraw 20 rfl) kc_F_280 rfl ?_
    refine V_lrem (pc := 33) C (dk k_F_actByDraw 21 rfl) ⟨by omega, by omega⟩ ⟨by omega, by omega⟩ (by omega) (by omega) ?_
    show V X _ _ [vL (drw z k)] _
    refine V_l2i (pc := 34) C (dk k_F_actByDraw 22 rfl) ?_
    refine V_istore (pc := 35) C (dk k_F_actByDraw 23 rfl) (by rw [hXN]; decide) ?_
    dsimp only [lst, lstL, lz, kill, Fin.val, Nat.reduceAdd]
    refine V_iload (pc := 37) C (dk k_F_actByDraw 24 rfl) rfl ?_
    have q0 : 0 ≤ drw z k / 8 := Int.ediv_nonneg d0 (by decide)
    have q1 : drw z k / 8 ≤ drw z k := Int.ediv_le_self _ d0
    have t0 := Int.emod_nonneg (drw z k / 8) (b := (pN π : Int)) (by omega)
    have t1 := Int.emod_lt_of_pos (drw z k / 8) (b := (pN π : Int)) (by omega)
    refine V_bipush (pc := 39) (n' := 8) C (dk k_F_actByDraw 25 rfl) rfl ?_
    refine V_idiv (pc := 41) C (dk k_F_actByDraw 26 rfl) ⟨by omega, by omega⟩ ⟨by omega, by omega⟩ (by omega) (by omega) ?_
    refine V_aload_n (pc := 42) C (dk k_F_actByDraw 27 rfl) rfl ?_
    refine V_getm (pc := 43) (o2 := pl) C (dk k_F_actByDraw 28 rfl) fl_F_26 kq_0 (by decide) rfl hm_pl ?_
    refine V_geti (pc := 46) (ji := 2) C (dk k_F_actByDraw 29 rfl) fl_F_196 hpl (by decide) rfl rfl ?_
    rw [e2]
    refine V_irem (pc := 49) C (dk k_F_actByDraw 30 rfl) ⟨by omega, by omega⟩ ⟨by omega, by omega⟩ (by omega) (by omega) ?_
    refine V_istore (pc := 50) C (dk k_F_actByDraw 31 rfl) (by rw [hXN]; decide) ?_
    dsimp only [lst, lstL, lz, kill, Fin.val, Nat.reduceAdd]
    refine V_iload (pc := 52) C (dk k_F_actByDraw 32 rfl) rfl ?_
    refine V_bipush (pc := 54) (n' := 8) C (dk k_F_actByDraw 33 rfl) rfl ?_
    refine V_irem (pc := 56) C (dk k_F_actByDraw 34 rfl) ⟨by omega, by omega⟩ ⟨by omega, by omega⟩ (by omega) (by omega) ?_
    refine V_istore (pc := 57) C (dk k_F_actByDraw 35 rfl) (by rw [hXN]; decide) ?_
    dsimp only [lst, lstL, lz, kill, Fin.val, Nat.reduceAdd]
    refine V_iload (pc := 59) C (dk k_F_actByDraw 36 rfl) rfl ?_
    refine V_iconst (pc := 61) C (dk k_F_actByDraw 37 rfl) rfl ?_
    refine V_icmpgt (pc := 62) C (dk k_F_actByDraw 38 rfl) 97 rfl (by first | exact hR _ _ | with_reducible assumption | exact ⟨by omega, by omega⟩) (by first | exact hR _ _ | with_reducible assumption | exact ⟨by omega, by omega⟩) (fun h2 => ?_) (fun h2 => ?_)
    · skip
      refine V_iload (pc := 97) C (dk k_F_actByDraw 53 rfl) rfl ?_
      refine V_iconst (pc := 99) C (dk k_F_actByDraw 54 rfl) rfl ?_
      refine V_icmpeq (pc := 100) C (dk k_F_actByDraw 55 rfl) 109 rfl (by first | exact hR _ _ | with_reducible assumption | exact ⟨by omega, by omega⟩) (by first | exact hR _ _ | with_reducible assumption | exact ⟨by omega, by omega⟩) (fun h3 => ?_) (fun h3 => ?_)
      · skip
        refine V_aload_n (pc := 109) C (dk k_F_actByDraw 59 rfl) rfl ?_
        refine V_getr (pc := 110) (o2 := 24) C (dk k_F_actByDraw 60 rfl) fl_F_40 kq_0 (by decide) rfl (by decide) rfl ?_
        refine V_aload_n (pc := 113) C (dk k_F_actByDraw 61 rfl) rfl ?_
        refine V_getm (pc := 114) (o2 := pl) C (dk k_F_actByDraw 62 rfl) fl_F_26 kq_0 (by decide) rfl hm_pl ?_
        refine V_iload (pc := 117) C (dk k_F_actByDraw 63 rfl) rfl ?_
        refine V_callV (pc := 119) C (dk k_F_actByDraw 64 rfl) lk_F_168 cm_S_canBuyBack vm_S_canBuyBack (c_S_canBuyBack _ _ _ 24 pl π x j (drw z k / 8 % pN π) hπ0 ok hx0 xk hj t0 t1) kq_24 rfl rfl rfl (Nat.le_of_ble_eq_true rfl) (Rm.mono hRm (by decide) (by decide)) ?_
        refine V_ifeqB (pc := 122) C (dk k_F_actByDraw 65 rfl) 138 rfl (fun h4 => ?_) (fun h4 => ?_)
        · skip
          refine V_vret (pc := 138) C E (dk k_F_actByDraw 72 rfl) ?_
          first | (have ea : actX π x z k = sellX π x (drw z k / 8 % pN π) := by (unfold actX; rw [if_neg (by omega), if_pos ⟨by omega, by assumption⟩])) | (have ea : actX π x z k = buyX π x (drw z k / 8 % pN π) := by (unfold actX; rw [if_neg (by omega), if_neg (fun q => by omega), if_pos ⟨by omega, by assumption⟩])) | (have ea : actX π x z k = buyX π x (drw z k / 8 % pN π) := by (unfold actX; rw [if_neg (by omega), if_neg (by omega), if_pos ⟨by omega, by assumption⟩])) | (have ea : actX π x z k = x := by (unfold actX; rw [if_neg (by omega), if_neg (fun q => by omega), if_neg (fun q => by omega)]))
          first | exact ⟨rfl, by rw [ea]; exact hq1.1, hq1.2⟩ | exact ⟨rfl, by rw [ea]; exact hx0, Fr.rf _ _ _⟩
        · skip
          refine V_aload_n (pc := 125) C (dk k_F_actByDraw 66 rfl) rfl ?_
          refine V_getr (pc := 126) (o2 := 24) C (dk k_F_actByDraw 67 rfl) fl_F_40 kq_0 (by decide) rfl (by decide) rfl ?_
          refine V_aload_n (pc := 129) C (dk k_F_actByDraw 68 rfl) rfl ?_
          refine V_getm (pc := 130) (o2 := pl) C (dk k_F_actByDraw 69 rfl) fl_F_26 kq_0 (by decide) rfl hm_pl ?_
          refine V_iload (pc := 133) C (dk k_F_actByDraw 70 rfl) rfl ?_
          refine V_callV0r (pc := 135) C (dk k_F_actByDraw 71 rfl) lk_F_171 cm_S_moveToPerson vm_S_moveToPerson (c_S_moveToPerson _ _ _ 24 pl π x j (drw z k / 8 % pN π) hπ0 ok hx0 xk hj t0 t1 (by omega)) kq_24 rfl rfl rfl (Nat.le_of_ble_eq_true rfl) (Rm.mono hRm (by decide) (by decide)) (fun τ1 hq1 => ?_)
          refine V_R (fun hR => ?_)
          refine V_vret (pc := 138) C E (dk k_F_actByDraw 72 rfl) ?_
          first | (have ea : actX π x z k = sellX π x (drw z k / 8 % pN π) := by (unfold actX; rw [if_neg (by omega), if_pos ⟨by omega, by assumption⟩])) | (have ea : actX π x z k = buyX π x (drw z k / 8 % pN π) := by (unfold actX; rw [if_neg (by omega), if_neg (fun q => by omega), if_pos ⟨by omega, by assumption⟩])) | (have ea : actX π x z k = buyX π x (drw z k / 8 % pN π) := by (unfold actX; rw [if_neg (by omega), if_neg (by omega), if_pos ⟨by omega, by assumption⟩])) | (have ea : actX π x z k = x := by (unfold actX; rw [if_neg (by omega), if_neg (fun q => by omega), if_neg (fun q => by omega)]))
          first | exact ⟨rfl, by rw [ea]; exact hq1.1, hq1.2⟩ | exact ⟨rfl, by rw [ea]; exact hx0, Fr.rf _ _ _⟩
      · skip
        refine V_iload (pc := 103) C (dk k_F_actByDraw 56 rfl) rfl ?_
        refine V_iconst (pc := 105) C (dk k_F_actByDraw 57 rfl) rfl ?_
        refine V_icmpne (pc := 106) C (dk k_F_actByDraw 58 rfl) 138 rfl (by first | exact hR _ _ | with_reducible assumption | exact ⟨by omega, by omega⟩) (by first | exact hR _ _ | with_reducible assumption | exact ⟨by omega, by omega⟩) (fun h5 => ?_) (fun h5 => ?_)
        · skip
          refine V_vret (pc := 138) C E (dk k_F_actByDraw 72 rfl) ?_
          first | (have ea : actX π x z k = sellX π x (drw z k / 8 % pN π) := by (unfold actX; rw [if_neg (by omega), if_pos ⟨by omega, by assumption⟩])) | (have ea : actX π x z k = buyX π x (drw z k / 8 % pN π) := by (unfold actX; rw [if_neg (by omega), if_neg (fun q => by omega), if_pos ⟨by omega, by assumption⟩])) | (have ea : actX π x z k = buyX π x (drw z k / 8 % pN π) := by (unfold actX; rw [if_neg (by omega), if_neg (by omega), if_pos ⟨by omega, by assumption⟩])) | (have ea : actX π x z k = x := by (unfold actX; rw [if_neg (by omega), if_neg (fun q => by omega), if_neg (fun q => by omega)]))
          first | exact ⟨rfl, by rw [ea]; exact hq1.1, hq1.2⟩ | exact ⟨rfl, by rw [ea]; exact hx0, Fr.rf _ _ _⟩
        · skip
          refine V_aload_n (pc := 109) C (dk k_F_actByDraw 59 rfl) rfl ?_
          refine V_getr (pc := 110) (o2 := 24) C (dk k_F_actByDraw 60 rfl) fl_F_40 kq_0 (by decide) rfl (by decide) rfl ?_
          refine V_aload_n (pc := 113) C (dk k_F_actByDraw 61 rfl) rfl ?_
          refine V_getm (pc := 114) (o2 := pl) C (dk k_F_actByDraw 62 rfl) fl_F_26 kq_0 (by decide) rfl hm_pl ?_
          refine V_iload (pc := 117) C (dk k_F_actByDraw 63 rfl) rfl ?_
          refine V_callV (pc := 119) C (dk k_F_actByDraw 64 rfl) lk_F_168 cm_S_canBuyBack vm_S_canBuyBack (c_S_canBuyBack _ _ _ 24 pl π x j (drw z k / 8 % pN π) hπ0 ok hx0 xk hj t0 t1) kq_24 rfl rfl rfl (Nat.le_of_ble_eq_true rfl) (Rm.mono hRm (by decide) (by decide)) ?_
          refine V_ifeqB (pc := 122) C (dk k_F_actByDraw 65 rfl) 138 rfl (fun h6 => ?_) (fun h6 => ?_)
          · skip
            refine V_vret (pc := 138) C E (dk k_F_actByDraw 72 rfl) ?_
            first | (have ea : actX π x z k = sellX π x (drw z k / 8 % pN π) := by (unfold actX; rw [if_neg (by omega), if_pos ⟨by omega, by assumption⟩])) | (have ea : actX π x z k = buyX π x (drw z k / 8 % pN π) := by (unfold actX; rw [if_neg (by omega), if_neg (fun q => by omega), if_pos ⟨by omega, by assumption⟩])) | (have ea : actX π x z k = buyX π x (drw z k / 8 % pN π) := by (unfold actX; rw [if_neg (by omega), if_neg (by omega), if_pos ⟨by omega, by assumption⟩])) | (have ea : actX π x z k = x := by (unfold actX; rw [if_neg (by omega), if_neg (fun q => by omega), if_neg (fun q => by omega)]))
            first | exact ⟨rfl, by rw [ea]; exact hq1.1, hq1.2⟩ | exact ⟨rfl, by rw [ea]; exact hx0, Fr.rf _ _ _⟩
          · skip
            refine V_aload_n (pc := 125) C (dk k_F_actByDraw 66 rfl) rfl ?_
            refine V_getr (pc := 126) (o2 := 24) C (dk k_F_actByDraw 67 rfl) fl_F_40 kq_0 (by decide) rfl (by decide) rfl ?_
            refine V_aload_n (pc := 129) C (dk k_F_actByDraw 68 rfl) rfl ?_
            refine V_getm (pc := 130) (o2 := pl) C (dk k_F_actByDraw 69 rfl) fl_F_26 kq_0 (by decide) rfl hm_pl ?_
            refine V_iload (pc := 133) C (dk k_F_actByDraw 70 rfl) rfl ?_
            refine V_callV0r (pc := 135) C (dk k_F_actByDraw 71 rfl) lk_F_171 cm_S_moveToPerson vm_S_moveToPerson (c_S_moveToPerson _ _ _ 24 pl π x j (drw z k / 8 % pN π) hπ0 ok hx0 xk hj t0 t1 (by omega)) kq_24 rfl rfl rfl (Nat.le_of_ble_eq_true rfl) (Rm.mono hRm (by decide) (by decide)) (fun τ1 hq1 => ?_)
            refine V_R (fun hR => ?_)
            refine V_vret (pc := 138) C E (dk k_F_actByDraw 72 rfl) ?_
            first | (have ea : actX π x z k = sellX π x (drw z k / 8 % pN π) := by (unfold actX; rw [if_neg (by omega), if_pos ⟨by omega, by assumption⟩])) | (have ea : actX π x z k = buyX π x (drw z k / 8 % pN π) := by (unfold actX; rw [if_neg (by omega), if_neg (fun q => by omega), if_pos ⟨by omega, by assumption⟩])) | (have ea : actX π x z k = buyX π x (drw z k / 8 % pN π) := by (unfold actX; rw [if_neg (by omega), if_neg (by omega), if_pos ⟨by omega, by assumption⟩])) | (have ea : actX π x z k = x := by (unfold actX; rw [if_neg (by omega), if_neg (fun q => by omega), if_neg (fun q => by omega)]))
            first | exact ⟨rfl, by rw [ea]; exact hq1.1, hq1.2⟩ | exact ⟨rfl, by rw [ea]; exact hx0, Fr.rf _ _ _⟩
    · skip
      refine V_aload_n (pc := 65) C (dk k_F_actByDraw 39 rfl) rfl ?_
      refine V_getr (pc := 66) (o2 := 24) C (dk k_F_actByDraw 40 rfl) fl_F_40 kq_0 (by decide) rfl (by decide) rfl ?_
      refine V_aload_n (pc := 69) C (dk k_F_actByDraw 41 rfl) rfl ?_
      refine V_getm (pc := 70) (o2 := pl) C (dk k_F_actByDraw 42 rfl) fl_F_26 kq_0 (by decide) rfl hm_pl ?_
      refine V_iload (pc := 73) C (dk k_F_actByDraw 43 rfl) rfl ?_
      refine V_callV (pc := 75) C (dk k_F_actByDraw 44 rfl) lk_F_156 cm_S_canSell vm_S_canSell (c_S_canSell _ _ _ 24 pl π x j (drw z k / 8 % pN π) hπ0 ok hx0 xk hj t0 t1) kq_24 rfl rfl rfl (Nat.le_of_ble_eq_true rfl) (Rm.mono hRm (by decide) (by decide)) ?_
      refine V_ifeqB (pc := 78) C (dk k_F_actByDraw 45 rfl) 97 rfl (fun h7 => ?_) (fun h7 => ?_)
      · skip
        refine V_iload (pc := 97) C (dk k_F_actByDraw 53 rfl) rfl ?_
        refine V_iconst (pc := 99) C (dk k_F_actByDraw 54 rfl) rfl ?_
        refine V_icmpeq (pc := 100) C (dk k_F_actByDraw 55 rfl) 109 rfl (by first | exact hR _ _ | with_reducible assumption | exact ⟨by omega, by omega⟩) (by first | exact hR _ _ | with_reducible assumption | exact ⟨by omega, by omega⟩) (fun h8 => ?_) (fun h8 => ?_)
        · skip
          refine V_aload_n (pc := 109) C (dk k_F_actByDraw 59 rfl) rfl ?_
          refine V_getr (pc := 110) (o2 := 24) C (dk k_F_actByDraw 60 rfl) fl_F_40 kq_0 (by decide) rfl (by decide) rfl ?_
          refine V_aload_n (pc := 113) C (dk k_F_actByDraw 61 rfl) rfl ?_
          refine V_getm (pc := 114) (o2 := pl) C (dk k_F_actByDraw 62 rfl) fl_F_26 kq_0 (by decide) rfl hm_pl ?_
          refine V_iload (pc := 117) C (dk k_F_actByDraw 63 rfl) rfl ?_
          refine V_callV (pc := 119) C (dk k_F_actByDraw 64 rfl) lk_F_168 cm_S_canBuyBack vm_S_canBuyBack (c_S_canBuyBack _ _ _ 24 pl π x j (drw z k / 8 % pN π) hπ0 ok hx0 xk hj t0 t1) kq_24 rfl rfl rfl (Nat.le_of_ble_eq_true rfl) (Rm.mono hRm (by decide) (by decide)) ?_
          refine V_ifeqB (pc := 122) C (dk k_F_actByDraw 65 rfl) 138 rfl (fun h9 => ?_) (fun h9 => ?_)
          · skip
            refine V_vret (pc := 138) C E (dk k_F_actByDraw 72 rfl) ?_
            first | (have ea : actX π x z k = sellX π x (drw z k / 8 % pN π) := by (unfold actX; rw [if_neg (by omega), if_pos ⟨by omega, by assumption⟩])) | (have ea : actX π x z k = buyX π x (drw z k / 8 % pN π) := by (unfold actX; rw [if_neg (by omega), if_neg (fun q => by omega), if_pos ⟨by omega, by assumption⟩])) | (have ea : actX π x z k = buyX π x (drw z k / 8 % pN π) := by (unfold actX; rw [if_neg (by omega), if_neg (by omega), if_pos ⟨by omega, by assumption⟩])) | (have ea : actX π x z k = x := by (unfold actX; rw [if_neg (by omega), if_neg (fun q => by omega), if_neg (fun q => by omega)]))
            first | exact ⟨rfl, by rw [ea]; exact hq1.1, hq1.2⟩ | exact ⟨rfl, by rw [ea]; exact hx0, Fr.rf _ _ _⟩
          · skip
            refine V_aload_n (pc := 125) C (dk k_F_actByDraw 66 rfl) rfl ?_
            refine V_getr (pc := 126) (o2 := 24) C (dk k_F_actByDraw 67 rfl) fl_F_40 kq_0 (by decide) rfl (by decide) rfl ?_
            refine V_aload_n (pc := 129) C (dk k_F_actByDraw 68 rfl) rfl ?_
            refine V_getm (pc := 130) (o2 := pl) C (dk k_F_actByDraw 69 rfl) fl_F_26 kq_0 (by decide) rfl hm_pl ?_
            refine V_iload (pc := 133) C (dk k_F_actByDraw 70 rfl) rfl ?_
            refine V_callV0r (pc := 135) C (dk k_F_actByDraw 71 rfl) lk_F_171 cm_S_moveToPerson vm_S_moveToPerson (c_S_moveToPerson _ _ _ 24 pl π x j (drw z k / 8 % pN π) hπ0 ok hx0 xk hj t0 t1 (by omega)) kq_24 rfl rfl rfl (Nat.le_of_ble_eq_true rfl) (Rm.mono hRm (by decide) (by decide)) (fun τ1 hq1 => ?_)
            refine V_R (fun hR => ?_)
            refine V_vret (pc := 138) C E (dk k_F_actByDraw 72 rfl) ?_
            first | (have ea : actX π x z k = sellX π x (drw z k / 8 % pN π) := by (unfold actX; rw [if_neg (by omega), if_pos ⟨by omega, by assumption⟩])) | (have ea : actX π x z k = buyX π x (drw z k / 8 % pN π) := by (unfold actX; rw [if_neg (by omega), if_neg (fun q => by omega), if_pos ⟨by omega, by assumption⟩])) | (have ea : actX π x z k = buyX π x (drw z k / 8 % pN π) := by (unfold actX; rw [if_neg (by omega), if_neg (by omega), if_pos ⟨by omega, by assumption⟩])) | (have ea : actX π x z k = x := by (unfold actX; rw [if_neg (by omega), if_neg (fun q => by omega), if_neg (fun q => by omega)]))
            first | exact ⟨rfl, by rw [ea]; exact hq1.1, hq1.2⟩ | exact ⟨rfl, by rw [ea]; exact hx0, Fr.rf _ _ _⟩
        · skip
          refine V_iload (pc := 103) C (dk k_F_actByDraw 56 rfl) rfl ?_
          refine V_iconst (pc := 105) C (dk k_F_actByDraw 57 rfl) rfl ?_
          refine V_icmpne (pc := 106) C (dk k_F_actByDraw 58 rfl) 138 rfl (by first | exact hR _ _ | with_reducible assumption | exact ⟨by omega, by omega⟩) (by first | exact hR _ _ | with_reducible assumption | exact ⟨by omega, by omega⟩) (fun h10 => ?_) (fun h10 => ?_)
          · skip
            refine V_vret (pc := 138) C E (dk k_F_actByDraw 72 rfl) ?_
            first | (have ea : actX π x z k = sellX π x (drw z k / 8 % pN π) := by (unfold actX; rw [if_neg (by omega), if_pos ⟨by omega, by assumption⟩])) | (have ea : actX π x z k = buyX π x (drw z k / 8 % pN π) := by (unfold actX; rw [if_neg (by omega), if_neg (fun q => by omega), if_pos ⟨by omega, by assumption⟩])) | (have ea : actX π x z k = buyX π x (drw z k / 8 % pN π) := by (unfold actX; rw [if_neg (by omega), if_neg (by omega), if_pos ⟨by omega, by assumption⟩])) | (have ea : actX π x z k = x := by (unfold actX; rw [if_neg (by omega), if_neg (fun q => by omega), if_neg (fun q => by omega)]))
            first | exact ⟨rfl, by rw [ea]; exact hq1.1, hq1.2⟩ | exact ⟨rfl, by rw [ea]; exact hx0, Fr.rf _ _ _⟩
          · skip
            refine V_aload_n (pc := 109) C (dk k_F_actByDraw 59 rfl) rfl ?_
            refine V_getr (pc := 110) (o2 := 24) C (dk k_F_actByDraw 60 rfl) fl_F_40 kq_0 (by decide) rfl (by decide) rfl ?_
            refine V_aload_n (pc := 113) C (dk k_F_actByDraw 61 rfl) rfl ?_
            refine V_getm (pc := 114) (o2 := pl) C (dk k_F_actByDraw 62 rfl) fl_F_26 kq_0 (by decide) rfl hm_pl ?_
            refine V_iload (pc := 117) C (dk k_F_actByDraw 63 rfl) rfl ?_
            refine V_callV (pc := 119) C (dk k_F_actByDraw 64 rfl) lk_F_168 cm_S_canBuyBack vm_S_canBuyBack (c_S_canBuyBack _ _ _ 24 pl π x j (drw z k / 8 % pN π) hπ0 ok hx0 xk hj t0 t1) kq_24 rfl rfl rfl (Nat.le_of_ble_eq_true rfl) (Rm.mono hRm (by decide) (by decide)) ?_
            refine V_ifeqB (pc := 122) C (dk k_F_actByDraw 65 rfl) 138 rfl (fun h11 => ?_) (fun h11 => ?_)
            · skip
              refine V_vret (pc := 138) C E (dk k_F_actByDraw 72 rfl) ?_
              first | (have ea : actX π x z k = sellX π x (drw z k / 8 % pN π) := by (unfold actX; rw [if_neg (by omega), if_pos ⟨by omega, by assumption⟩])) | (have ea : actX π x z k = buyX π x (drw z k / 8 % pN π) := by (unfold actX; rw [if_neg (by omega), if_neg (fun q => by omega), if_pos ⟨by omega, by assumption⟩])) | (have ea : actX π x z k = buyX π x (drw z k / 8 % pN π) := by (unfold actX; rw [if_neg (by omega), if_neg (by omega), if_pos ⟨by omega, by assumption⟩])) | (have ea : actX π x z k = x := by (unfold actX; rw [if_neg (by omega), if_neg (fun q => by omega), if_neg (fun q => by omega)]))
              first | exact ⟨rfl, by rw [ea]; exact hq1.1, hq1.2⟩ | exact ⟨rfl, by rw [ea]; exact hx0, Fr.rf _ _ _⟩
            · skip
              refine V_aload_n (pc := 125) C (dk k_F_actByDraw 66 rfl) rfl ?_
              refine V_getr (pc := 126) (o2 := 24) C (dk k_F_actByDraw 67 rfl) fl_F_40 kq_0 (by decide) rfl (by decide) rfl ?_
              refine V_aload_n (pc := 129) C (dk k_F_actByDraw 68 rfl) rfl ?_
              refine V_getm (pc := 130) (o2 := pl) C (dk k_F_actByDraw 69 rfl) fl_F_26 kq_0 (by decide) rfl hm_pl ?_
              refine V_iload (pc := 133) C (dk k_F_actByDraw 70 rfl) rfl ?_
              refine V_callV0r (pc := 135) C (dk k_F_actByDraw 71 rfl) lk_F_171 cm_S_moveToPerson vm_S_moveToPerson (c_S_moveToPerson _ _ _ 24 pl π x j (drw z k / 8 % pN π) hπ0 ok hx0 xk hj t0 t1 (by omega)) kq_24 rfl rfl rfl (Nat.le_of_ble_eq_true rfl) (Rm.mono hRm (by decide) (by decide)) (fun τ1 hq1 => ?_)
              refine V_R (fun hR => ?_)
              refine V_vret (pc := 138) C E (dk k_F_actByDraw 72 rfl) ?_
              first | (have ea : actX π x z k = sellX π x (drw z k / 8 % pN π) := by (unfold actX; rw [if_neg (by omega), if_pos ⟨by omega, by assumption⟩])) | (have ea : actX π x z k = buyX π x (drw z k / 8 % pN π) := by (unfold actX; rw [if_neg (by omega), if_neg (fun q => by omega), if_pos ⟨by omega, by assumption⟩])) | (have ea : actX π x z k = buyX π x (drw z k / 8 % pN π) := by (unfold actX; rw [if_neg (by omega), if_neg (by omega), if_pos ⟨by omega, by assumption⟩])) | (have ea : actX π x z k = x := by (unfold actX; rw [if_neg (by omega), if_neg (fun q => by omega), if_neg (fun q => by omega)]))
              first | exact ⟨rfl, by rw [ea]; exact hq1.1, hq1.2⟩ | exact ⟨rfl, by rw [ea]; exact hx0, Fr.rf _ _ _⟩
      · skip
        refine V_aload_n (pc := 81) C (dk k_F_actByDraw 46 rfl) rfl ?_
        refine V_getr (pc := 82) (o2 := 24) C (dk k_F_actByDraw 47 rfl) fl_F_40 kq_0 (by decide) rfl (by decide) rfl ?_
        refine V_aload_n (pc := 85) C (dk k_F_actByDraw 48 rfl) rfl ?_
        refine V_getm (pc := 86) (o2 := pl) C (dk k_F_actByDraw 49 rfl) fl_F_26 kq_0 (by decide) rfl hm_pl ?_
        refine V_iload (pc := 89) C (dk k_F_actByDraw 50 rfl) rfl ?_
        refine V_callV0r (pc := 91) C (dk k_F_actByDraw 51 rfl) lk_F_164 cm_S_moveToCellar vm_S_moveToCellar (c_S_moveToCellar _ _ _ 24 pl π x j (drw z k / 8 % pN π) hπ0 ok hx0 xk hj t0 t1 (by omega)) kq_24 rfl rfl rfl (Nat.le_of_ble_eq_true rfl) (Rm.mono hRm (by decide) (by decide)) (fun τ1 hq1 => ?_)
        refine V_R (fun hR => ?_)
        refine V_goto (pc := 94) C (dk k_F_actByDraw 52 rfl) 138 rfl ?_
        refine V_vret (pc := 138) C E (dk k_F_actByDraw 72 rfl) ?_
        first | (have ea : actX π x z k = sellX π x (drw z k / 8 % pN π) := by (unfold actX; rw [if_neg (by omega), if_pos ⟨by omega, by assumption⟩])) | (have ea : actX π x z k = buyX π x (drw z k / 8 % pN π) := by (unfold actX; rw [if_neg (by omega), if_neg (fun q => by omega), if_pos ⟨by omega, by assumption⟩])) | (have ea : actX π x z k = buyX π x (drw z k / 8 % pN π) := by (unfold actX; rw [if_neg (by omega), if_neg (by omega), if_pos ⟨by omega, by assumption⟩])) | (have ea : actX π x z k = x := by (unfold actX; rw [if_neg (by omega), if_neg (fun q => by omega), if_neg (fun q => by omega)]))
        first | exact ⟨rfl, by rw [ea]; exact hq1.1, hq1.2⟩ | exact ⟨rfl, by rw [ea]; exact hx0, Fr.rf _ _ _⟩
  · skip
    refine V_vret (pc := 10) C E (dk k_F_actByDraw 4 rfl) ?_
    have ea : actX π x z k = x := if_pos (by omega)
    exact ⟨rfl, by rw [ea]; exact hx0, Fr.rf _ _ _⟩

def i_F_year : List (Nat × (Instr × Nat)) := [(0, (.iload_n 1, 1)), (1, (.iconst 0, 1)), (2, (.sipush 9999, 3)), (5, (.invokestatic 98, 3)), (8, (.ifCond .eq 22, 3)), (11, (.iload_n 2, 1)), (12, (.iconst 1, 1)), (13, (.bipush 60, 2)), (15, (.invokestatic 98, 3)), (18, (.ifCond .eq 12, 3)), (21, (.iload_n 3, 1)), (22, (.iconst 0, 1)), (23, (.iconst 1, 1)), (24, (.invokestatic 98, 3)), (27, (.ifCond .ne 5, 3)), (30, (.iconst (-1), 1)), (31, (.ireturn, 1)), (32, (.aload_n 0, 1)), (33, (.getfield 40, 3)), (36, (.aload_n 0, 1)), (37, (.getfield 36, 3)), (40, (.invokevirtual 189, 3)), (43, (.iconst 0, 1)), (44, (.istore 4, 2)), (46, (.iload 4, 2)), (48, (.iload_n 2, 1)), (49, (.if_icmp .ge 27, 3)), (52, (.aload_n 0, 1)), (53, (.iload_n 1, 1)), (54, (.iload 4, 2)), (56, (.invokevirtual 250, 3)), (59, (.aload_n 0, 1)), (60, (.getfield 40, 3)), (63, (.aload_n 0, 1)), (64, (.getfield 26, 3)), (67, (.invokevirtual 174, 3)), (70, (.iinc 4 1, 3)), (73, (.goto (-27), 3)), (76, (.iload_n 3, 1)), (77, (.ifCond .ne 17, 3)), (80, (.aload_n 0, 1)), (81, (.getfield 40, 3)), (84, (.aload_n 0, 1)), (85, (.getfield 26, 3)), (88, (.invokevirtual 192, 3)), (91, (.goto 14, 3)), (94, (.aload_n 0, 1)), (95, (.getfield 40, 3)), (98, (.aload_n 0, 1)), (99, (.getfield 26, 3)), (102, (.invokevirtual 254, 3)), (105, (.ireturn, 1))]
theorem k_F_year : i_F_year.all (fun q => decide (decode b_F_year q.1 = .ok q.2)) = true := by decide +kernel

set_option maxHeartbeats 1000000 in
set_option maxRecDepth 20000 in
theorem c_F_year (l : Launch) (G : GE) (σ : Wd) (pl sp : Nat) (π : PL) (x : ST) (us ks : List ST) (lk : List (Int × (Int × Int))) (tx : List Int) (j : Int) (hC : CR σ pl sp π x us ks lk tx) (hV : VK π x us ks j) (hj : j ≤ 100) (z n k : Int) (hz : inR z) (hn : inR n) (hk : inR k) : Ct l G y_F_year b_F_year 5 (some (.int)) 5 113 [vR 0, vI z, vI n, vI k] σ (Rt (some (vI (o_year π x z n k))) (fun σ' => CR σ' pl sp π x us ks lk tx ∧ Fc σ σ')) := by
  refine Ct.of cm_F_year (Nat.le_of_ble_eq_true rfl) ?_
  intro X hXl hXG hXN hRm C E
  subst hXl; subst hXG
  have ⟨hz_1, hz_2⟩ := hz
  have ⟨hn_1, hn_2⟩ := hn
  have ⟨hk_1, hk_2⟩ := hk
  show V X 0 [some (vR 0), some (vI z), some (vI n), some (vI k), none] [] σ
  refine V_R (fun hR => ?_)
  obtain ⟨hF, hsp0, hsp, hne, hx, hU, hK, hl, hT⟩ := id hC
  obtain ⟨ok, xk, usk, ksk, ks2⟩ := id hV
  have hF0 := hF
  obtain ⟨hm_pl, hπ⟩ := hF
  have hπ0 := hπ
  obtain ⟨hpl, e0, e2, e7, e10, eT, eX⟩ := hπ
  obtain ⟨hpl_1, hpl_2, hpl_3, hpl_4, hpl_5, hpl_6⟩ := kd_P hpl
  have ⟨k1, k2, k3, k4, k5, k6, kT, kX⟩ := ok
  have hx0 := hx
  obtain ⟨hs, f0, f1, fQ, fT⟩ := hx
  simp only [Nat.reduceAdd] at fQ fT
  have ⟨x1, x2, x3, x4, xQ, xT⟩ := xk
  have p512 := kd5 hpl
  have s512 := kd5 hsp
  refine V_iload_n (pc := 0) C (dk k_F_year 0 rfl) rfl ?_
  refine V_iconst (pc := 1) C (dk k_F_year 1 rfl) rfl ?_
  refine V_sipush (pc := 2) (n' := 9999) C (dk k_F_year 2 rfl) rfl ?_
  refine V_callS (pc := 5) C (dk k_F_year 3 rfl) lk_F_98 cm_F_within sm_F_within (c_F_within _ _ _ z 0 9999 hz ⟨by decide, by decide⟩ ⟨by decide, by decide⟩) rfl rfl (Nat.le_of_ble_eq_true rfl) (Rm.mono hRm (by decide) (by decide)) ?_
  refine V_ifeqB (pc := 8) C (dk k_F_year 4 rfl) 30 rfl (fun h1 => ?_) (fun h1 => ?_)
  · skip
    refine V_iconst (pc := 30) C (dk k_F_year 15 rfl) rfl ?_
    refine V_iret (pc := 31) C E (dk k_F_year 16 rfl) ?_
    rw [show o_year π x z n k = -1 from if_neg (by omega)]
    exact ⟨rfl, hC, Fc.rf σ⟩
  · skip
    refine V_iload_n (pc := 11) C (dk k_F_year 5 rfl) rfl ?_
    refine V_iconst (pc := 12) C (dk k_F_year 6 rfl) rfl ?_
    refine V_bipush (pc := 13) (n' := 60) C (dk k_F_year 7 rfl) rfl ?_
    refine V_callS (pc := 15) C (dk k_F_year 8 rfl) lk_F_98 cm_F_within sm_F_within (c_F_within _ _ _ n 1 60 hn ⟨by decide, by decide⟩ ⟨by decide, by decide⟩) rfl rfl (Nat.le_of_ble_eq_true rfl) (Rm.mono hRm (by decide) (by decide)) ?_
    refine V_ifeqB (pc := 18) C (dk k_F_year 9 rfl) 30 rfl (fun h2 => ?_) (fun h2 => ?_)
    · skip
      refine V_iconst (pc := 30) C (dk k_F_year 15 rfl) rfl ?_
      refine V_iret (pc := 31) C E (dk k_F_year 16 rfl) ?_
      rw [show o_year π x z n k = -1 from if_neg (by omega)]
      exact ⟨rfl, hC, Fc.rf σ⟩
    · skip
      refine V_iload_n (pc := 21) C (dk k_F_year 10 rfl) rfl ?_
      refine V_iconst (pc := 22) C (dk k_F_year 11 rfl) rfl ?_
      refine V_iconst (pc := 23) C (dk k_F_year 12 rfl) rfl ?_
      refine V_callS (pc := 24) C (dk k_F_year 13 rfl) lk_F_98 cm_F_within sm_F_within (c_F_within _ _ _ k 0 1 hk ⟨by decide, by decide⟩ ⟨by decide, by decide⟩) rfl rfl (Nat.le_of_ble_eq_true rfl) (Rm.mono hRm (by decide) (by decide)) ?_
      refine V_ifneB (pc := 27) C (dk k_F_year 14 rfl) 32 rfl (fun h3 => ?_) (fun h3 => ?_)
      · skip
        refine V_aload_n (pc := 32) C (dk k_F_year 17 rfl) rfl ?_
        refine V_getr (pc := 33) (o2 := 24) C (dk k_F_year 18 rfl) fl_F_40 kq_0 (by decide) rfl (by decide) rfl ?_
        refine V_aload_n (pc := 36) C (dk k_F_year 19 rfl) rfl ?_
        refine V_getr (pc := 37) (o2 := 19) C (dk k_F_year 20 rfl) fl_F_36 kq_0 (by decide) rfl (by decide) rfl ?_
        refine V_callV0r (pc := 40) C (dk k_F_year 21 rfl) lk_F_189 cm_S_copyFrom vm_S_copyFrom (c_S_copyFrom _ _ _ 24 19 kq_24 hs (by decide)) kq_24 rfl rfl rfl (Nat.le_of_ble_eq_true rfl) (Rm.mono hRm (by decide) (by decide)) (fun τ1 hq1 => ?_)
        refine V_R (fun hR => ?_)
        refine V_iconst (pc := 43) C (dk k_F_year 22 rfl) rfl ?_
        refine V_istore (pc := 44) C (dk k_F_year 23 rfl) (by rw [hXN]; decide) ?_
        dsimp only [lst, lstL, lz, kill, Fin.val, Nat.reduceAdd]
        refine V_eq (V_loop (fun q : Nat × Wd => (q.1 : Int) ≤ n ∧ StR q.2 24 π (yearX π x z q.1) ∧ Fr 24 5 σ q.2) (fun q => [some (vR 0), some (vI z), some (vI n), some (vI k), some (vI (q.1 : Int))]) (fun q => q.2) (fun q => n.toNat - q.1) (fun q hq ih => ?_) (0, τ1) ⟨by dsimp only; omega, StR.copy kq_24 ok hx0 hq1.1.1 hq1.1.2.1 hq1.1.2.2.1 hq1.1.2.2.2, hq1.2⟩) rfl rfl rfl
        obtain ⟨i, τ⟩ := q
        obtain ⟨hi, tx1, tfr⟩ := hq
        dsimp only at hi tx1 tfr ih ⊢
        refine V_R (fun hR => ?_)
        have hF2 : FR τ pl π := hF0.fr (tfr 0 (by omega)) (fun k a b => tfr k (by omega))
        have yk := year_ok (z := z) ok xk i
        refine V_iload (pc := 46) C (dk k_F_year 24 rfl) rfl ?_
        refine V_iload_n (pc := 48) C (dk k_F_year 25 rfl) rfl ?_
        refine V_icmpge (pc := 49) C (dk k_F_year 26 rfl) 76 rfl (by first | exact hR _ _ | with_reducible assumption | exact ⟨by omega, by omega⟩) (by first | exact hR _ _ | with_reducible assumption | exact ⟨by omega, by omega⟩) (fun h4 => ?_) (fun h4 => ?_)
        · skip
          refine V_iload_n (pc := 76) C (dk k_F_year 38 rfl) rfl ?_
          refine V_ifne (pc := 77) C (dk k_F_year 39 rfl) 94 rfl (by first | exact hR _ _ | with_reducible assumption | exact ⟨by omega, by omega⟩) (fun h5 => ?_) (fun h5 => ?_)
          · skip
            refine V_aload_n (pc := 94) C (dk k_F_year 46 rfl) rfl ?_
            refine V_getr (pc := 95) (o2 := 24) C (dk k_F_year 47 rfl) fl_F_40 kq_0 (by decide) rfl (by decide) rfl ?_
            refine V_aload_n (pc := 98) C (dk k_F_year 48 rfl) rfl ?_
            refine V_getm (pc := 99) (o2 := pl) C (dk k_F_year 49 rfl) fl_F_26 kq_0 (by decide) rfl (by rw [tfr 0 (by omega)]; exact hm_pl) ?_
            refine V_callV (pc := 102) C (dk k_F_year 50 rfl) lk_F_254 cm_S_rueOfAll vm_S_rueOfAll (c_S_rueOfAll _ _ _ 24 pl π (yearX π x z i) (j + i) hF2.2 ok tx1 yk (by omega)) kq_24 rfl rfl rfl (Nat.le_of_ble_eq_true rfl) (Rm.mono hRm (by decide) (by decide)) ?_
            refine V_iret (pc := 105) C E (dk k_F_year 51 rfl) ?_
            obtain rfl : n = i := by omega
            first | (rw [show o_year π x z (i : Int) k = cellar π (yearX π x z i) by unfold o_year; rw [if_pos (by omega), if_pos (by omega), Int.toNat_natCast]]) | (rw [show o_year π x z (i : Int) k = sm (fun q => sR (yearX π x z i) q) (pP π) by unfold o_year; rw [if_pos (by omega), if_neg (by omega), Int.toNat_natCast]])
            exact ⟨rfl, hC.fr (fun k a => tfr k (by unfold scr at a; omega)), fun k a => tfr k (by omega)⟩
          · skip
            refine V_aload_n (pc := 80) C (dk k_F_year 40 rfl) rfl ?_
            refine V_getr (pc := 81) (o2 := 24) C (dk k_F_year 41 rfl) fl_F_40 kq_0 (by decide) rfl (by decide) rfl ?_
            refine V_aload_n (pc := 84) C (dk k_F_year 42 rfl) rfl ?_
            refine V_getm (pc := 85) (o2 := pl) C (dk k_F_year 43 rfl) fl_F_26 kq_0 (by decide) rfl (by rw [tfr 0 (by omega)]; exact hm_pl) ?_
            refine V_callV (pc := 88) C (dk k_F_year 44 rfl) lk_F_192 cm_S_nearOfCellar vm_S_nearOfCellar (c_S_nearOfCellar _ _ _ 24 pl π (yearX π x z i) (j + i) hF2.2 ok tx1 yk (by omega)) kq_24 rfl rfl rfl (Nat.le_of_ble_eq_true rfl) (Rm.mono hRm (by decide) (by decide)) ?_
            refine V_goto (pc := 91) C (dk k_F_year 45 rfl) 105 rfl ?_
            refine V_iret (pc := 105) C E (dk k_F_year 51 rfl) ?_
            obtain rfl : n = i := by omega
            first | (rw [show o_year π x z (i : Int) k = cellar π (yearX π x z i) by unfold o_year; rw [if_pos (by omega), if_pos (by omega), Int.toNat_natCast]]) | (rw [show o_year π x z (i : Int) k = sm (fun q => sR (yearX π x z i) q) (pP π) by unfold o_year; rw [if_pos (by omega), if_neg (by omega), Int.toNat_natCast]])
            exact ⟨rfl, hC.fr (fun k a => tfr k (by unfold scr at a; omega)), fun k a => tfr k (by omega)⟩
        · skip
          refine V_aload_n (pc := 52) C (dk k_F_year 27 rfl) rfl ?_
          refine V_iload_n (pc := 53) C (dk k_F_year 28 rfl) rfl ?_
          refine V_iload (pc := 54) C (dk k_F_year 29 rfl) rfl ?_
          refine V_callV0r (pc := 56) C (dk k_F_year 30 rfl) lk_F_250 cm_F_actByDraw vm_F_actByDraw (c_F_actByDraw _ _ _ pl π (yearX π x z i) (j + i) z i hF2 ok tx1 yk (by omega) (by omega) (by omega) (by omega) (by omega)) kq_0 rfl rfl rfl (Nat.le_of_ble_eq_true rfl) (Rm.mono hRm (by decide) (by decide)) (fun τ3 hq3 => ?_)
          refine V_R (fun hR => ?_)
          refine V_aload_n (pc := 59) C (dk k_F_year 31 rfl) rfl ?_
          refine V_getr (pc := 60) (o2 := 24) C (dk k_F_year 32 rfl) fl_F_40 kq_0 (by decide) rfl (by decide) rfl ?_
          refine V_aload_n (pc := 63) C (dk k_F_year 33 rfl) rfl ?_
          refine V_getm (pc := 64) (o2 := pl) C (dk k_F_year 34 rfl) fl_F_26 kq_0 (by decide) rfl (by rw [hq3.2 0 (by omega), tfr 0 (by omega)]; exact hm_pl) ?_
          refine V_callV0r (pc := 67) C (dk k_F_year 35 rfl) lk_F_174 cm_S_passDay vm_S_passDay (c_S_passDay _ _ _ 24 pl π (actX π (yearX π x z i) z i) (j + i + 1) (hπ0.fr (fun k a b => (hq3.2 k (by omega)).trans (tfr k (by omega)))) ok hq3.1 ((act_ok (z := z) (k := (i : Int)) ok yk.d).ok (by omega) (by omega)) (by omega)) kq_24 rfl rfl rfl (Nat.le_of_ble_eq_true rfl) (Rm.mono hRm (by decide) (by decide)) (fun τ2 hq2 => ?_)
          refine V_R (fun hR => ?_)
          refine V_iinc (pc := 70) C (dk k_F_year 36 rfl) (by rw [hXN]; decide) rfl ?_
          dsimp only [lst, lstL, lz, kill, Fin.val, Nat.reduceAdd]
          refine V_goto (pc := 73) C (dk k_F_year 37 rfl) 46 rfl ?_
          exact ih (i + 1, τ2) ⟨by dsimp only; omega, hq2.1, (tfr.tr hq3.2).tr hq2.2⟩ (by dsimp only; omega)
      · skip
        refine V_iconst (pc := 30) C (dk k_F_year 15 rfl) rfl ?_
        refine V_iret (pc := 31) C E (dk k_F_year 16 rfl) ?_
        rw [show o_year π x z n k = -1 from if_neg (by omega)]
        exact ⟨rfl, hC, Fc.rf σ⟩
