/-! more of the world of the class alone (written by a program out of the parts ahead) -/
section VR
variable {X : KX} {cc : ByteArray} {own : String} {pc : Nat} {ls : List (Option AV)} {st : List AV} {σ : Wd}
theorem V_aloadX_n_8 {i : Fin 4} {b : Nat} (C : Cx_8 X cc own) (d : decode cc pc = .ok (.aload_n i, 1))   (h : ls[(i : Nat)]? = some (some (vX (some b)))) (k : V_8 X (pc + 1) ls (vX (some b) :: st) σ) : V_8 X pc ls st σ := by
  obtain ⟨p, l, e, R, s, m, args, below, meth, c, G, nL, ck, sk, Q⟩ := X
  obtain ⟨hx, hb, hml, hown, hlk, hts, hPK, hap, hck, hsk⟩ := C
  intro hR H locs sl hP hS hL
  exact lv_aload_n hx hb d rfl (lv1 hL h) (k hR H locs sl hP hS hL)

theorem V_ishr_8 {a t : Int} (C : Cx_8 X cc own) (d : decode cc pc = .ok (.ishr, 1))  (ha : inR a) (ha0 : 0 ≤ a) (h0 : 0 ≤ t) (h1 : t < 31) (k : V_8 X (pc + 1) ls (vI (a / 2 ^ t.toNat) :: st) σ) : V_8 X pc ls (vI t :: vI a :: st) σ := by
  obtain ⟨p, l, e, R, s, m, args, below, meth, c, G, nL, ck, sk, Q⟩ := X
  obtain ⟨hx, hb, hml, hown, hlk, hts, hPK, hap, hck, hsk⟩ := C
  intro hR H locs sl hP hS hL
  refine lv_ishr hx hb d ?_
  rw [oi_shr ha ha0 h0 h1]
  exact k hR H locs sl hP hS hL

theorem V_iand_8 {a b : Int} (C : Cx_8 X cc own) (d : decode cc pc = .ok (.iand, 1))  (ha : inR a) (hb1 : inR b) (ha0 : 0 ≤ a) (hb0 : 0 ≤ b) (k : V_8 X (pc + 1) ls (vI ((a.toNat &&& b.toNat : Nat) : Int) :: st) σ) : V_8 X pc ls (vI b :: vI a :: st) σ := by
  obtain ⟨p, l, e, R, s, m, args, below, meth, c, G, nL, ck, sk, Q⟩ := X
  obtain ⟨hx, hb, hml, hown, hlk, hts, hPK, hap, hck, hsk⟩ := C
  intro hR H locs sl hP hS hL
  refine lv_iand hx hb d ?_
  rw [oi_and ha hb1 ha0 hb0]
  exact k hR H locs sl hP hS hL

theorem V_i2c_8 {a : Int} (C : Cx_8 X cc own) (d : decode cc pc = .ok (.i2c, 1))  (h0 : 0 ≤ a) (h1 : a < 65536) (k : V_8 X (pc + 1) ls (vI a :: st) σ) : V_8 X pc ls (vI a :: st) σ := by
  obtain ⟨p, l, e, R, s, m, args, below, meth, c, G, nL, ck, sk, Q⟩ := X
  obtain ⟨hx, hb, hml, hown, hlk, hts, hPK, hap, hck, hsk⟩ := C
  intro hR H locs sl hP hS hL
  exact lv_i2c hx hb d (oi_i2c h0 h1) (k hR H locs sl hP hS hL)

theorem V_popI_8 {z : Int} (C : Cx_8 X cc own) (d : decode cc pc = .ok (.pop, 1))  (k : V_8 X (pc + 1) ls st σ) : V_8 X pc ls (vI z :: st) σ := by
  obtain ⟨p, l, e, R, s, m, args, below, meth, c, G, nL, ck, sk, Q⟩ := X
  obtain ⟨hx, hb, hml, hown, hlk, hts, hPK, hap, hck, hsk⟩ := C
  intro hR H locs sl hP hS hL
  exact lv_pop hx hb d rfl (k hR H locs sl hP hS hL)

end VR
section VC
variable {X : KX} {cc : ByteArray} {own : String} {pc : Nat} {ls : List (Option AV)} {st : List AV} {σ : Wd}
end VC
section VC2
variable {X : KX} {cc : ByteArray} {own : String} {pc : Nat} {ls : List (Option AV)} {st : List AV} {σ : Wd}
end VC2
theorem PlR_8.st {σ σ' : Wd} {p s : Nat} {π : PL} (h : PlR_8 σ p π) (hs : kd_8 s = 7) (hf : Fr s 5 σ σ') : PlR_8 σ' p π :=
  h.fr (fun k h1 h2 => hf k (Or.inl (by have := kd_PS_8 h.1 hs; omega)))
theorem kq_0_8 : kd_8 0 = 8 := by decide +kernel
theorem kq_19_8 : kd_8 19 = 7 := by decide +kernel
theorem kq_29_8 : kd_8 29 = 4 := by decide +kernel
theorem kq_71_8 : kd_8 71 = 4 := by decide +kernel
theorem kq_113_8 : kd_8 113 = 3 := by decide +kernel
theorem DR_8.pl {σ : Wd} {p : Nat} {d : DS} (h : DR_8 σ p d) : PlR_8 σ p (piO d) := by
  obtain ⟨h0, ⟨h1, h1b⟩, ⟨h2, h2b⟩, ⟨h3, h3b⟩, ⟨h4, h5⟩, h6, h7, h8⟩ := h
  refine ⟨h0, h1, h2, h3, h5, fun t a b => ?_, fun r a b => ?_⟩
  · have b : t < ((dT d).length : Int) := b
    have g := h7 t.toNat _ (getO (0, (0, (0, 0))) a b)
    rw [Int.toNat_of_nonneg a] at g
    exact ⟨g.1, g.2.1, g.2.2.2⟩
  · have b : r < ((dX d).length : Int) := b
    have g := h8 r.toNat _ (getO 0 a b)
    rw [Int.toNat_of_nonneg a] at g
    exact g
theorem DR_8.st {σ τ : Wd} {p s : Nat} {d : DS} (h : DR_8 σ p d) (hs : kd_8 s = 7) (h0 : τ s 0 = 0) (h1 : τ s 1 = σ p 9) (h2 : ∀ i : Int, 0 ≤ i → i < 5 → τ (s + 1) i = σ (p + 1) i ∧ τ (s + 2) i = 0) (h3 : ∀ i : Int, 0 ≤ i → i < 8 → τ (s + 3) i = σ (p + 4) i ∧ τ (s + 4) i = 0) : StR_8 τ s (piO d) (stO d) := by
  obtain ⟨g0, ⟨g1, g1b⟩, ⟨g2, g2b⟩, ⟨g3, g3b⟩, ⟨g4, g5⟩, g6, g7, g8⟩ := h
  refine ⟨hs, h0, h1.trans g4, fun q a b => ?_, fun t a b => ?_⟩
  · have b : q < ((dM d).length : Int) := b
    have g := g6 q.toNat _ (getO 0 a b)
    rw [Int.toNat_of_nonneg a] at g
    obtain ⟨e1, e2⟩ := h2 q a (by omega)
    exact ⟨e1.trans g, e2⟩
  · have b : t < ((dT d).length : Int) := b
    have g := g7 t.toNat _ (getO (0, (0, (0, 0))) a b)
    rw [Int.toNat_of_nonneg a] at g
    obtain ⟨e1, e2⟩ := h3 t a (by omega)
    exact ⟨e1.trans g.2.2.1, e2⟩

set_option maxHeartbeats 1000000 in
set_option maxRecDepth 20000 in
theorem c_F_layTextU_8 (l : Launch) (G : GE) (σ : Wd) (pl sp : Nat) (π : PL) (x : ST) (us ks : List ST) (lk : List (Int × (Int × Int))) (tx : List Int) (hC : CR_8 σ pl sp π x us ks lk tx) (hok : (o_read tx).1 = -4 ∧ dM (o_read tx).2 ≠ []) : Ct_8 l G y_F_layText b_F_layText 2 (some (.boolean)) 4 96 [vR 0] σ (Rt (some (vI 1)) (fun σ' => CR_8 σ' sp pl (piO (o_read tx).2) (stO (o_read tx).2) [] [] [] tx ∧ Fc σ σ')) := by
  refine Ct_8.of cm_F_layText (Nat.le_of_ble_eq_true rfl) ?_
  intro X hXl hXG hXN hRm C E
  subst hXl; subst hXG
  show V_8 X 0 [some (vR 0), none] [] σ
  refine V_R_8 (fun hR => ?_)
  obtain ⟨hF, hsp0, hsp, hne, hx, hU, hK, hl, hT⟩ := id hC
  have hF0 := hF
  obtain ⟨hm_pl, hπ⟩ := hF
  have hπ0 := hπ
  obtain ⟨hpl, e0, e2, e7, e10, eT, eX⟩ := hπ
  obtain ⟨hpl_1, hpl_2, hpl_3, hpl_4, hpl_5, hpl_6⟩ := kd_P_8 hpl
  have hx0 := hx
  obtain ⟨hs, f0, f1, fQ, fT⟩ := hx
  simp only [Nat.reduceAdd] at fQ fT
  have p512 := kd5_8 hpl
  have s512 := kd5_8 hsp
  obtain ⟨tx1, tx2, tx3⟩ := id hT
  refine V_aload_n_8 (pc := 0) C (dk k_F_layText 0 rfl) rfl ?_
  refine V_getr_8 (pc := 1) (o2 := 3) C (dk k_F_layText 1 rfl) fl_F_19 kq_0_8 (by decide) rfl (by decide) rfl ?_
  refine V_aload_n_8 (pc := 4) C (dk k_F_layText 2 rfl) rfl ?_
  refine V_getm_8 (pc := 5) (o2 := sp) C (dk k_F_layText 3 rfl) fl_F_30 kq_0_8 (by decide) rfl hsp0 ?_
  refine V_aload_n_8 (pc := 8) C (dk k_F_layText 4 rfl) rfl ?_
  refine V_getr_8 (pc := 9) (o2 := 1) C (dk k_F_layText 5 rfl) fl_F_10 kq_0_8 (by decide) rfl (by decide) rfl ?_
  refine V_callVr_8 (pc := 12) C (dk k_F_layText 6 rfl) lk_F_102 cm_R_readInto vm_R_readInto (c_R_readInto_8 _ _ _ sp tx hsp hT) kq_3_8 rfl rfl rfl (Nat.le_of_ble_eq_true rfl) (Rm.mono hRm (by decide) (by decide)) (fun τ1 hq1 => ?_)
  refine V_R_8 (fun hR => ?_)
  have hm1 : (τ1 0 3).toNat = sp := by rw [hq1.2 0 (by omega) (by omega)]; exact hsp0
  have hm2 : (τ1 0 2).toNat = pl := by rw [hq1.2 0 (by omega) (by omega)]; exact hm_pl
  have hrr : inR (o_read tx).1 := o_read_R tx tx2
  have hD := hq1.1 hok.1
  have hlen : 0 < (dM (o_read tx).2).length := Nat.pos_of_ne_zero (fun h => hok.2 (List.eq_nil_of_length_eq_zero h))
  have hD0 := hD.2.1.1
  refine V_bipush_8 (pc := 15) (n' := (-4)) C (dk k_F_layText 7 rfl) rfl ?_
  refine V_icmpne_8 (pc := 17) C (dk k_F_layText 8 rfl) 30 rfl hrr ⟨by decide, by decide⟩ (fun h1 => ?_) (fun h1 => ?_)
  · skip
    exfalso; omega
  · skip
    refine V_aload_n_8 (pc := 20) C (dk k_F_layText 9 rfl) rfl ?_
    refine V_getm_8 (pc := 21) (o2 := sp) C (dk k_F_layText 10 rfl) fl_F_30 kq_0_8 (by decide) rfl hm1 ?_
    refine V_geti_8 (pc := 24) (ji := 0) C (dk k_F_layText 11 rfl) fl_F_106 hsp (by decide) rfl rfl ?_
    refine V_ifne_8 (pc := 27) C (dk k_F_layText 12 rfl) 32 rfl (by first | exact hR _ _ | with_reducible assumption | exact ⟨by omega, by omega⟩) (fun h2 => ?_) (fun h2 => ?_)
    · skip
      refine V_aload_n_8 (pc := 32) C (dk k_F_layText 15 rfl) rfl ?_
      refine V_getm_8 (pc := 33) (o2 := pl) C (dk k_F_layText 16 rfl) fl_F_26 kq_0_8 (by decide) rfl hm2 ?_
      refine V_astore_n_8 (pc := 36) C (dk k_F_layText 17 rfl) (by rw [hXN]; decide) ?_
      dsimp only [lst, lstL, lz, kill, Fin.val, Nat.reduceAdd]
      refine V_aload_n_8 (pc := 37) C (dk k_F_layText 18 rfl) rfl ?_
      refine V_aload_n_8 (pc := 38) C (dk k_F_layText 19 rfl) rfl ?_
      refine V_getm_8 (pc := 39) (o2 := sp) C (dk k_F_layText 20 rfl) fl_F_30 kq_0_8 (by decide) rfl hm1 ?_
      refine V_putm_8 (pc := 42) C (dk k_F_layText 21 rfl) fl_F_26 fw_8_2 kq_0_8 (by decide) rfl (by omega) ?_
      refine V_R_8 (fun hR => ?_)
      refine V_aload_n_8 (pc := 45) C (dk k_F_layText 22 rfl) rfl ?_
      refine V_aload_n_8 (pc := 46) C (dk k_F_layText 23 rfl) rfl ?_
      refine V_putm_8 (pc := 47) C (dk k_F_layText 24 rfl) fl_F_30 fw_8_3 kq_0_8 (by decide) rfl (by omega) ?_
      refine V_R_8 (fun hR => ?_)
      change V_8 X _ _ _ (up (up τ1 0 2 (sp : Int)) 0 3 (pl : Int))
      refine V_R_8 (fun hR => ?_)
      refine V_aload_n_8 (pc := 50) C (dk k_F_layText 25 rfl) rfl ?_
      refine V_getr_8 (pc := 51) (o2 := 19) C (dk k_F_layText 26 rfl) fl_F_36 kq_0_8 (by decide) rfl (by decide) rfl ?_
      refine V_aload_n_8 (pc := 54) C (dk k_F_layText 27 rfl) rfl ?_
      have hm3 : (up (up τ1 0 2 sp) 0 3 pl 0 2).toNat = sp := by rw [up_ne2 _ (by decide), up_at]; exact Int.toNat_natCast sp
      refine V_getm_8 (pc := 55) (o2 := sp) C (dk k_F_layText 28 rfl) fl_F_26 kq_0_8 (by decide) rfl hm3 ?_
      refine V_callV0r_8 (pc := 58) C (dk k_F_layText 29 rfl) lk_F_263 cm_S_begin vm_S_begin (c_S_begin_8 _ _ _ 19 sp hs hsp) kq_19_8 rfl rfl rfl (Nat.le_of_ble_eq_true rfl) (Rm.mono hRm (by decide) (by decide)) (fun τ2 hq2 => ?_)
      refine V_R_8 (fun hR => ?_)
      refine V_aload_n_8 (pc := 61) C (dk k_F_layText 30 rfl) rfl ?_
      refine V_getr_8 (pc := 62) (o2 := 113) C (dk k_F_layText 31 rfl) fl_F_56 kq_0_8 (by decide) rfl (by decide) rfl ?_
      refine V_iconst_8 (pc := 65) C (dk k_F_layText 32 rfl) rfl ?_
      refine V_puti_8 (pc := 66) (ji := 3) C (dk k_F_layText 33 rfl) fl_F_235 fw_3_3 kq_113_8 (by decide) rfl rfl R0 ?_
      refine V_R_8 (fun hR => ?_)
      refine V_aload_n_8 (pc := 69) C (dk k_F_layText 34 rfl) rfl ?_
      refine V_getr_8 (pc := 70) (o2 := 29) C (dk k_F_layText 35 rfl) fl_F_46 kq_0_8 (by decide) rfl (by decide) rfl ?_
      refine V_iconst_8 (pc := 73) C (dk k_F_layText 36 rfl) rfl ?_
      refine V_puti_8 (pc := 74) (ji := 2) C (dk k_F_layText 37 rfl) fl_F_182 fw_4_2 kq_29_8 (by decide) rfl rfl R0 ?_
      refine V_R_8 (fun hR => ?_)
      refine V_aload_n_8 (pc := 77) C (dk k_F_layText 38 rfl) rfl ?_
      refine V_getr_8 (pc := 78) (o2 := 71) C (dk k_F_layText 39 rfl) fl_F_50 kq_0_8 (by decide) rfl (by decide) rfl ?_
      refine V_iconst_8 (pc := 81) C (dk k_F_layText 40 rfl) rfl ?_
      refine V_puti_8 (pc := 82) (ji := 2) C (dk k_F_layText 41 rfl) fl_F_182 fw_4_2 kq_71_8 (by decide) rfl rfl R0 ?_
      refine V_R_8 (fun hR => ?_)
      refine V_iconst_8 (pc := 85) C (dk k_F_layText 42 rfl) rfl ?_
      refine V_zret_8 (pc := 86) C (by first | exact Or.inl rfl | exact Or.inr rfl | (split <;> first | exact Or.inl rfl | exact Or.inr rfl) | omega) E (dk k_F_layText 43 rfl) ?_
      have g : ∀ k, k ≠ 0 → up (up τ1 0 2 (sp : Int)) 0 3 (pl : Int) k = τ1 k := fun k a => by rw [up_row _ _ _ a, up_row _ _ _ a]
      have e : ∀ k, ¬ (3 ≤ k ∧ k < 5) → ¬ (sp ≤ k ∧ k < sp + 7) → k ≠ 0 → ¬ (19 ≤ k ∧ k < 24) → k ≠ 113 → k ≠ 29 → k ≠ 71 → up (up (up τ2 113 3 0) 29 2 0) 71 2 0 k = σ k := fun k a b c d u v z => by rw [up_row _ _ _ z, up_row _ _ _ v, up_row _ _ _ u, hq2.2 k (by omega), g k c]; exact hq1.2 k a b
      have e2 : ∀ k, k ≠ 113 → k ≠ 29 → k ≠ 71 → up (up (up τ2 113 3 0) 29 2 0) 71 2 0 k = τ2 k := fun k u v z => by rw [up_row _ _ _ z, up_row _ _ _ v, up_row _ _ _ u]
      have e0 : up (up (up τ2 113 3 0) 29 2 0) 71 2 0 0 = up (up τ1 0 2 (sp : Int)) 0 3 (pl : Int) 0 := (e2 0 (by omega) (by omega) (by omega)).trans (hq2.2 0 (by omega))
      have eS : ∀ k, sp ≤ k → k < sp + 7 → up (up (up τ2 113 3 0) 29 2 0) 71 2 0 k = τ1 k := fun k a b => (e2 k (by omega) (by omega) (by omega)).trans ((hq2.2 k (by omega)).trans (g k (by omega)))
      have hD3 := hD.fr eS
      obtain ⟨u0, u1, u2, u3, u4, u5⟩ := hU
      obtain ⟨v0, v1, v2, v3, v4, v5⟩ := hK
      have m29 : up (up (up τ2 113 3 0) 29 2 0) 71 2 0 29 1 = σ 29 1 := by rw [up_ne1 _ _ _ _ (by decide), up_ne2 _ (by decide), up_ne1 _ _ _ _ (by decide), hq2.2 29 (by omega), g 29 (by omega), hq1.2 29 (by omega) (by omega)]
      have m71 : up (up (up τ2 113 3 0) 29 2 0) 71 2 0 71 1 = σ 71 1 := by rw [up_ne2 _ (by decide), up_ne1 _ _ _ _ (by decide), up_ne1 _ _ _ _ (by decide), hq2.2 71 (by omega), g 71 (by omega), hq1.2 71 (by omega) (by omega)]
      obtain ⟨z0, z1, z2, z3⟩ := hq2.1
      rw [g sp (by omega)] at z1
      have z2 : ∀ i : Int, 0 ≤ i → i < 5 → τ2 (19 + 1) i = τ1 (sp + 1) i ∧ τ2 (19 + 2) i = 0 := fun i a b => by rw [← g (sp + 1) (by omega)]; exact z2 i a b
      have z3 : ∀ i : Int, 0 ≤ i → i < 8 → τ2 (19 + 3) i = τ1 (sp + 4) i ∧ τ2 (19 + 4) i = 0 := fun i a b => by rw [← g (sp + 4) (by omega)]; exact z3 i a b
      refine ⟨rfl, ⟨⟨?_, hD3.pl⟩, ?_, hpl, fun h => hne h.symm, (hD.st hs z0 z1 z2 z3).fr (fun k a b => e2 k (by omega) (by omega) (by omega)), ?_, ?_, ?_, hT.fr (e 1 (by omega) (by omega) (by omega) (by omega) (by omega) (by omega) (by omega)) (e 2 (by omega) (by omega) (by omega) (by omega) (by omega) (by omega) (by omega))⟩, fun k a => e k (by omega) (by omega) (by omega) (by omega) (by omega) (by omega) (by omega)⟩
      · rw [e0, up_ne2 _ (by decide), up_at]; exact Int.toNat_natCast sp
      · rw [e0, up_at]; exact Int.toNat_natCast pl
      · exact ⟨u0, by rw [m29]; exact u1, by rw [m29]; exact u2, by rw [up_ne1 _ _ _ _ (by decide), up_at]; rfl, by decide, fun k y h => by simp at h⟩
      · exact ⟨v0, by rw [m71]; exact v1, by rw [m71]; exact v2, by rw [up_at]; rfl, by decide, fun k y h => by simp at h⟩
      · exact ⟨by rw [up_ne1 _ _ _ _ (by decide), up_ne1 _ _ _ _ (by decide), up_at]; rfl, by decide, fun k y h => by simp at h⟩
    · skip
      exfalso; omega
/-! the JDK's own methods over the literal -/
abbrev bj_length : ByteArray := prog_13_method_54_code
def yj_length : MethodName := ⟨"java/lang/String", "length", "()I"⟩
theorem cmj_length : CMs yj_length bj_length 1 (some (.int)) 0 := ⟨gw_in (82 + 251) (by decide +kernel) rfl, gw_in (82 + 10) (by decide +kernel) rfl, by decide +kernel, by decide +kernel⟩
theorem vmj_length : VM yj_length := ⟨gw_in (82 + 249) (by decide +kernel) rfl, gw_in (82 + 250) (by decide +kernel) rfl⟩
def ij_length : List (Nat × (Instr × Nat)) := [(0, (.aload_n 0, 1)), (1, (.getfield 9, 3)), (4, (.arraylength, 1)), (5, (.aload_n 0, 1)), (6, (.invokevirtual 335, 3)), (9, (.ishr, 1)), (10, (.ireturn, 1))]
theorem kj_length : ij_length.all (fun q => decide (decode bj_length q.1 = .ok q.2)) = true := by decide +kernel
abbrev bj_coder : ByteArray := prog_13_method_152_code
def yj_coder : MethodName := ⟨"java/lang/String", "coder", "()B"⟩
theorem cmj_coder : CMs yj_coder bj_coder 1 (some (.byte)) 0 := ⟨gw_in (82 + 255) (by decide +kernel) rfl, gw_in (82 + 10) (by decide +kernel) rfl, by decide +kernel, by decide +kernel⟩
theorem vmj_coder : VM yj_coder := ⟨gw_in (82 + 253) (by decide +kernel) rfl, gw_in (82 + 254) (by decide +kernel) rfl⟩
def ij_coder : List (Nat × (Instr × Nat)) := [(0, (.getstatic 38, 3)), (3, (.ifCond .eq 10, 3)), (6, (.aload_n 0, 1)), (7, (.getfield 15, 3)), (10, (.goto 4, 3)), (13, (.iconst 1, 1)), (14, (.ireturn, 1))]
theorem kj_coder : ij_coder.all (fun q => decide (decode bj_coder q.1 = .ok q.2)) = true := by decide +kernel
abbrev bj_charAt : ByteArray := prog_13_method_56_code
def yj_charAt : MethodName := ⟨"java/lang/String", "charAt", "(I)C"⟩
theorem cmj_charAt : CMs yj_charAt bj_charAt 2 (some (.char)) 1 := ⟨gw_in (82 + 261) (by decide +kernel) rfl, gw_in (82 + 10) (by decide +kernel) rfl, by decide +kernel, by decide +kernel⟩
theorem vmj_charAt : VM yj_charAt := ⟨gw_in (82 + 259) (by decide +kernel) rfl, gw_in (82 + 260) (by decide +kernel) rfl⟩
def ij_charAt : List (Nat × (Instr × Nat)) := [(0, (.aload_n 0, 1)), (1, (.invokevirtual 492, 3)), (4, (.ifCond .eq 12, 3)), (7, (.aload_n 0, 1)), (8, (.getfield 9, 3)), (11, (.iload_n 1, 1)), (12, (.invokestatic 495, 3)), (15, (.ireturn, 1))]
theorem kj_charAt : ij_charAt.all (fun q => decide (decode bj_charAt q.1 = .ok q.2)) = true := by decide +kernel
abbrev bj_isL : ByteArray := prog_13_method_154_code
def yj_isL : MethodName := ⟨"java/lang/String", "isLatin1", "()Z"⟩
theorem cmj_isL : CMs yj_isL bj_isL 1 (some (.boolean)) 0 := ⟨gw_in (82 + 265) (by decide +kernel) rfl, gw_in (82 + 10) (by decide +kernel) rfl, by decide +kernel, by decide +kernel⟩
theorem vmj_isL : VM yj_isL := ⟨gw_in (82 + 263) (by decide +kernel) rfl, gw_in (82 + 264) (by decide +kernel) rfl⟩
def ij_isL : List (Nat × (Instr × Nat)) := [(0, (.getstatic 38, 3)), (3, (.ifCond .eq 14, 3)), (6, (.aload_n 0, 1)), (7, (.getfield 15, 3)), (10, (.ifCond .ne 7, 3)), (13, (.iconst 1, 1)), (14, (.goto 4, 3)), (18, (.ireturn, 1))]
theorem kj_isL : ij_isL.all (fun q => decide (decode bj_isL q.1 = .ok q.2)) = true := by decide +kernel
abbrev bj_lch : ByteArray := prog_14_method_2_code
def yj_lch : MethodName := ⟨"java/lang/StringLatin1", "charAt", "([BI)C"⟩
theorem cmj_lch : CMs yj_lch bj_lch 2 (some (.char)) 2 := ⟨gw_in (82 + 268) (by decide +kernel) rfl, gw_in (82 + 11) (by decide +kernel) rfl, by decide +kernel, by decide +kernel⟩
theorem smj_lch : SM yj_lch := gw_in (82 + 267) (by decide +kernel) rfl
def ij_lch : List (Nat × (Instr × Nat)) := [(0, (.iload_n 1, 1)), (1, (.aload_n 0, 1)), (2, (.arraylength, 1)), (3, (.invokestatic 9, 3)), (6, (.aload_n 0, 1)), (7, (.iload_n 1, 1)), (8, (.baload, 1)), (9, (.sipush 255, 3)), (12, (.iand, 1)), (13, (.i2c, 1)), (14, (.ireturn, 1))]
theorem kj_lch : ij_lch.all (fun q => decide (decode bj_lch q.1 = .ok q.2)) = true := by decide +kernel
abbrev bj_cki : ByteArray := prog_13_method_155_code
def yj_cki : MethodName := ⟨"java/lang/String", "checkIndex", "(II)V"⟩
theorem cmj_cki : CMs yj_cki bj_cki 2 (none) 2 := ⟨gw_in (82 + 271) (by decide +kernel) rfl, gw_in (82 + 10) (by decide +kernel) rfl, by decide +kernel, by decide +kernel⟩
theorem smj_cki : SM yj_cki := gw_in (82 + 270) (by decide +kernel) rfl
def ij_cki : List (Nat × (Instr × Nat)) := [(0, (.iload_n 0, 1)), (1, (.iload_n 1, 1)), (2, (.getstatic 1053, 3)), (5, (.invokestatic 1059, 3)), (8, (.pop, 1)), (9, (.return_, 1))]
theorem kj_cki : ij_cki.all (fun q => decide (decode bj_cki q.1 = .ok q.2)) = true := by decide +kernel
abbrev bj_ckp : ByteArray := prog_16_method_11_code
def yj_ckp : MethodName := ⟨"jdk/internal/util/Preconditions", "checkIndex", "(IILjava/util/function/BiFunction;)I"⟩
theorem cmj_ckp : CMs yj_ckp bj_ckp 3 (some (.int)) 3 := ⟨gw_in (82 + 276) (by decide +kernel) rfl, gw_in (82 + 12) (by decide +kernel) rfl, by decide +kernel, by decide +kernel⟩
theorem smj_ckp : SM yj_ckp := gw_in (82 + 275) (by decide +kernel) rfl
def ij_ckp : List (Nat × (Instr × Nat)) := [(0, (.iload_n 0, 1)), (1, (.ifCond .lt 8, 3)), (4, (.iload_n 0, 1)), (5, (.iload_n 1, 1)), (6, (.if_icmp .lt 10, 3)), (16, (.iload_n 0, 1)), (17, (.ireturn, 1))]
theorem kj_ckp : ij_ckp.all (fun q => decide (decode bj_ckp q.1 = .ok q.2)) = true := by decide +kernel
theorem lfj_38 : Cond.fieldLink "java/lang/String" 38 "java/lang/String" "COMPACT_STRINGS" "Z" ∈ gw := gw_in (82 + 256) (by decide +kernel) rfl
theorem lfj_1053 : Cond.fieldLink "java/lang/String" 1053 "jdk/internal/util/Preconditions" "SIOOBE_FORMATTER" "Ljava/util/function/BiFunction;" ∈ gw := gw_in (82 + 272) (by decide +kernel) rfl
theorem lfj_9 : Cond.fieldLink "java/lang/String" 9 "java/lang/String" "value" "[B" ∈ gw := gw_in (82 + 1087) (by decide +kernel) rfl
theorem lfj_15 : Cond.fieldLink "java/lang/String" 15 "java/lang/String" "coder" "B" ∈ gw := gw_in (82 + 1088) (by decide +kernel) rfl
def FTS : String := "a5;a0;a12;a30;u0,0,6,2;u0,1,9,7;u1,3,14,0;u1,2,8,3;u2,0,3,1;u2,1,12,15;u3,0,10,4;u3,2,5,5;x3;x2;x5;x1;s80,5;"
def FTb : List Int32 := FT.map Int32.ofInt
theorem FTb_at {i : Nat} (h : i < 108) : FTb.getD i 0 = Int32.ofInt (FT.getD i 0) := by
  unfold FTb
  rw [List.getD_eq_getElem?_getD, List.getD_eq_getElem?_getD, List.getElem?_map]
  rw [List.getElem?_eq_getElem (show i < FT.length by rw [FT_len]; exact h)]
  rfl
theorem FT_c {i : Nat} (h : i < 108) : 32 ≤ FT.getD i 0 ∧ FT.getD i 0 ≤ 126 := by
  rw [List.getD_eq_getElem?_getD, List.getElem?_eq_getElem (show i < FT.length by rw [FT_len]; exact h)]
  exact FT_b _ (List.getElem_mem _)
/-- what is there of the literal: b the String, t its bytes -/
def SX (G : GE) (b t : Nat) (U : State) : Prop := vk_S 1 [108] [FTb] (fun _ => b) (fun _ => t) (AG_8 G) U U.heap ∧ vk_R "ForgoneShop" 74 FTS b U ∧ va_Z "java/lang/String" "COMPACT_STRINGS" "Z" (.int 1) (AG_8 G) U U.heap ∧ va_Zq "jdk/internal/util/Preconditions" "SIOOBE_FORMATTER" "Ljava/util/function/BiFunction;" (AG_8 G) U U.heap
theorem SX.to {G : GE} {b t : Nat} {s U : State} (h : SX G b t s) (hW : s.WarmedH U.vm) (hq : ∀ q : Nat, q < s.heap.size → ¬ AG_8 G q → U.heap[q]? = s.heap[q]?) : SX G b t U :=
  ⟨(h.1.moved hW.alike).kept hq, h.2.1.warm hW, (h.2.2.1.moved hW.alike).kept hq, (h.2.2.2.moved hW.alike).kept hq⟩
theorem SX.blind {G : GE} {b t : Nat} (U : State) (g : JFrame) (mk : MethodId) (a : Array Value) (h : SX G b t U) : SX G b t (U.calling g mk a) :=
  ⟨vk_S.moved (u := U) (Vm.Alike.refl U.vm) h.1, vk_R.same (u := U) rfl h.2.1, va_Z.moved (u := U) (Vm.Alike.refl U.vm) h.2.2.1, va_Zq.moved (u := U) (Vm.Alike.refl U.vm) h.2.2.2⟩
/-- a contract that leans on the literal -/
def CtX (b t : Nat) (l : Launch) (G : GE) (y : MethodName) (bb : ByteArray) (nL : Nat) (ret : Option FieldType) (rF rL : Nat) (avs : List AV) (σ : Wd) (fin : Option AV → Wd → Prop) : Prop :=
  apart_8 G → R32 σ → Met l y (Cond.code y bb nL ret :: gw) { frames := rF, cells := 0, slots := 0, locals := rL } (va_Pc (avs.map (cv G)) (fun U => va_P (gD G) CL (wsO_8 G σ) U.heap ∧ PK G U ∧ SX G b t U)) (QcO_8 G fin) 0 0 (AG_8 G)
def SA (X : KX) (b t : Nat) : Prop := XiA X (SX (xG X) b t)
theorem CtX.of {b t : Nat} {l : Launch} {G : GE} {y : MethodName} {bb : ByteArray} {nL n : Nat} {ret : Option FieldType} {rF rL : Nat} {avs : List AV} {σ : Wd} {fin : Option AV → Wd → Prop} (cm : CMs y bb nL ret n) (hn : (avs.map avc).sum ≤ nL)
    (h : ∀ X : KX, xL X = l → xG X = G → xN X = nL → Rm X rF rL → Cx_8 X bb y.cls → Ex_8 X ret fin → SA X b t → V_8 X 0 (ents nL avs) [] σ) : CtX b t l G y bb nL ret rF rL avs σ fin := by
  intro hap hR
  refine Met.ofW (cc := bb) (maxL := nL) (ret := ret) cm.2.2.2 rfl ?_
  intro p e s m args below meth c s₁ B hml hv
  obtain ⟨rfl, hP, hPK, hS⟩ := hv
  have hts0 := atoms_spec (ws := Cond.code y bb nL ret :: gw) B.pre
  have K := h (p, l, e, { frames := rF, cells := 0, slots := 0, locals := rL }, s, m, (avs.map (cv G)).toArray, below, meth, c, G, nL, 0, 0, MQ below (QcO_8 G fin) (avs.map (cv G)).toArray s 0 0 (AG_8 G)) rfl rfl rfl ⟨Nat.le_refl _, Nat.le_refl _⟩
    ⟨B.exec, B.bytes, hml, findClass_of_methodNamed B.named, B.notSynchronized, fun wd hw => hts0 wd (List.mem_cons_of_mem _ hw), hPK, hap, Nat.le_refl _, Nat.le_refl _⟩ ⟨B.returns, rfl⟩ hS
  rw [lg_entry_eq]
  refine K hR s.heap [] _ hP va_S.rf ?_
  have hl := lv_entry (avs.map (cv G)) (n := nL) (by rw [lg_len]; exact hn)
  refine ⟨hl.1, hl.2.1, fun i a hi => ?_⟩
  have := entL_mem G avs 0 i a (ents_get hi)
  rw [Nat.zero_add] at this
  exact hl.2.2 _ this
section VX
variable {X : KX} {cc : ByteArray} {own : String} {pc : Nat} {ls : List (Option AV)} {st : List AV} {σ : Wd} {b t : Nat}
theorem VX_ldc (C : Cx_8 X cc "ForgoneShop") (S : SA X b t) (d : decode cc pc = .ok (.ldc 74, 2)) (k : V_8 X (pc + 2) ls (vX (some b) :: st) σ) : V_8 X pc ls st σ := by
  obtain ⟨p, l, e, R, s, m, args, below, meth, c, G, nL, ck, sk, Q⟩ := X
  obtain ⟨hx, hb, hml, hown, hlk, hts, hPK, hap, hck, hsk⟩ := C
  intro hR H locs sl hP hS hL
  exact va_ldcS hx hb hown S.2.1 d (k hR H locs sl hP hS hL)
theorem VX_cs (C : Cx_8 X cc "java/lang/String") (S : SA X b t) (d : decode cc pc = .ok (.getstatic 38, 3)) (k : V_8 X (pc + 3) ls (vI 1 :: st) σ) : V_8 X pc ls st σ := by
  obtain ⟨p, l, e, R, s, m, args, below, meth, c, G, nL, ck, sk, Q⟩ := X
  obtain ⟨hx, hb, hml, hown, hlk, hts, hPK, hap, hck, hsk⟩ := C
  intro hR H locs sl hP hS hL
  exact va_gets hx hb S.2.2.1 hS hown (hts _ lfj_38) (fun _ q => q) d (k hR H locs sl hP hS hL)
theorem VX_sf (C : Cx_8 X cc "java/lang/String") (S : SA X b t) (d : decode cc pc = .ok (.getstatic 1053, 3)) (k : ∀ o, V_8 X (pc + 3) ls (vX o :: st) σ) : V_8 X pc ls st σ := by
  obtain ⟨p, l, e, R, s, m, args, below, meth, c, G, nL, ck, sk, Q⟩ := X
  obtain ⟨hx, hb, hml, hown, hlk, hts, hPK, hap, hck, hsk⟩ := C
  intro hR H locs sl hP hS hL
  rcases S.2.2.2 with hZ | ⟨u, hZ⟩
  · exact va_gets hx hb hZ hS hown (hts _ lfj_1053) (fun _ q => q) d (k none hR H locs sl hP hS hL)
  · exact va_gets hx hb hZ hS hown (hts _ lfj_1053) (fun _ q => q) d (k (some u) hR H locs sl hP hS hL)
theorem VX_coder (C : Cx_8 X cc "java/lang/String") (S : SA X b t) (d : decode cc pc = .ok (.getfield 15, 3)) (k : V_8 X (pc + 3) ls (vI 0 :: st) σ) : V_8 X pc ls (vX (some b) :: st) σ := by
  obtain ⟨p, l, e, R, s, m, args, below, meth, c, G, nL, ck, sk, Q⟩ := X
  obtain ⟨hx, hb, hml, hown, hlk, hts, hPK, hap, hck, hsk⟩ := C
  intro hR H locs sl hP hS hL
  exact vk_getf hx hb (S.1.1 0 (by decide)).2.1 hS hown (hts _ lfj_15) (fun _ q => q) d (k hR H locs sl hP hS hL)
theorem VX_value (C : Cx_8 X cc "java/lang/String") (S : SA X b t) (d : decode cc pc = .ok (.getfield 9, 3)) (k : V_8 X (pc + 3) ls (vX (some t) :: st) σ) : V_8 X pc ls (vX (some b) :: st) σ := by
  obtain ⟨p, l, e, R, s, m, args, below, meth, c, G, nL, ck, sk, Q⟩ := X
  obtain ⟨hx, hb, hml, hown, hlk, hts, hPK, hap, hck, hsk⟩ := C
  intro hR H locs sl hP hS hL
  exact vk_getf hx hb (S.1.1 0 (by decide)).2.2.1 hS hown (hts _ lfj_9) (fun _ q => q) d (k hR H locs sl hP hS hL)
theorem VX_blen (C : Cx_8 X cc own) (S : SA X b t) (d : decode cc pc = .ok (.arraylength, 1)) (k : V_8 X (pc + 1) ls (vI 108 :: st) σ) : V_8 X pc ls (vX (some t) :: st) σ := by
  obtain ⟨p, l, e, R, s, m, args, below, meth, c, G, nL, ck, sk, Q⟩ := X
  obtain ⟨hx, hb, hml, hown, hlk, hts, hPK, hap, hck, hsk⟩ := C
  intro hR H locs sl hP hS hL
  exact va_tlen hx hb (S.1.1 0 (by decide)).2.2.2 hS (v := Int32.ofInt 108) rfl d (k hR H locs sl hP hS hL)
theorem VX_bald (C : Cx_8 X cc own) (S : SA X b t) {i : Int} (h0 : 0 ≤ i) (h1 : i < 108) (d : decode cc pc = .ok (.baload, 1)) (k : V_8 X (pc + 1) ls (vI (FT.getD i.toNat 0) :: st) σ) : V_8 X pc ls (vI i :: vX (some t) :: st) σ := by
  obtain ⟨p, l, e, R, s, m, args, below, meth, c, G, nL, ck, sk, Q⟩ := X
  obtain ⟨hx, hb, hml, hown, hlk, hts, hPK, hap, hck, hsk⟩ := C
  intro hR H locs sl hP hS hL
  refine va_tb (v := .int (Int32.ofInt (FT.getD i.toNat 0))) hx hb (S.1.1 0 (by decide)).2.2.2 hS (oi_in (n := 108) h0 h1 (by decide)) ?_ d (k hR H locs sl hP hS hL)
  rw [oi_nat h0 ⟨by omega, by omega⟩]
  exact congrArg Value.int (FTb_at (by omega))
theorem VX_bret (C : Cx_8 X cc own) {fin : Option AV → Wd → Prop} (E : Ex_8 X (some .byte) fin) (d : decode cc pc = .ok (.ireturn, 1)) (h : fin (some (vI 0)) σ) : V_8 X pc ls [vI 0] σ := by
  obtain ⟨p, l, e, R, s, m, args, below, meth, c, G, nL, ck, sk, Q⟩ := X
  obtain ⟨hx, hb, hml, hown, hlk, hts, hPK, hap, hck, hsk⟩ := C
  obtain ⟨hr, hQ⟩ := E
  subst hQ
  intro hR H locs sl hP hS hL
  exact W.zret (v := Int32.ofInt 0) hx hb hr rfl (fun t ht hW => ⟨⟨some (vI 0), σ, rfl, h, hR, by rw [ht]; exact hP⟩, hS.F ht⟩) hS.2.2 d hlk
theorem VX_zret (C : Cx_8 X cc own) {fin : Option AV → Wd → Prop} (E : Ex_8 X (some .boolean) fin) (d : decode cc pc = .ok (.ireturn, 1)) (h : fin (some (vI 1)) σ) : V_8 X pc ls [vI 1] σ := V_zret_8 C (Or.inr rfl) E d h
abbrev PcX (b t : Nat) (G : GE) (avs : List AV) (σ : Wd) : Array Value → State → Prop := va_Pc (avs.map (cv G)) (fun U => va_P (gD G) CL (wsO_8 G σ) U.heap ∧ PK G U ∧ SX G b t U)
theorem PcX_blind (b t : Nat) (G : GE) (avs : List AV) (σ : Wd) : FrameBlind (PcX b t G avs σ) := by
  intro a U g mk h
  exact ⟨h.1, h.2.1, PK.calling g mk a h.2.2.1, SX.blind U g mk a h.2.2.2⟩
theorem VX_callV (C : Cx_8 X cc own) (S : SA X b t) {index nL2 n rF rL : Nat} {y : MethodName} {bb : ByteArray} {ret : Option FieldType} {as rest : List AV} {v : AV} (d : decode cc pc = .ok (.invokevirtual index, 3)) (lk : LK own index y) (cm : CMs y bb nL2 ret n) (vm : VM y) (hM : CtX b t (xL X) (xG X) y bb nL2 ret rF rL (vX (some b) :: as) σ (Dt (some v) σ))
    (hcl : y.cls = "java/lang/String") (hn : as.length = n) (hst : st = as.reverse ++ vX (some b) :: rest) (hroom : (rest.map avc).sum ≤ 8) (hRm : Rm X (rF + 1) (8 + (nL2 + 11) + rL)) (k : V_8 X (pc + 3) ls (v :: rest) σ) : V_8 X pc ls st σ := by
  subst hst
  obtain ⟨p, l, e, R, s, m, args, below, meth, c, G, nL, ck, sk, Q⟩ := X
  obtain ⟨hx, hb, hml, hown, hlk, hts, hPK, hap, hck, hsk⟩ := C
  intro hR H locs sl hP hS hL
  have hM := hM hap hR
  obtain ⟨c1, c2, c3, c4⟩ := cm
  obtain ⟨v1, v2⟩ := vm
  have hrecv := vk_recv S.1 (i := 0) (by decide) hS
  have hpay := gw_pay (nL := nL2) (ret := ret) hts c1
  have hlen : ∀ sig, parseMethodDescriptor y.desc = some sig → n = sig.parameters.length := by
    intro sig h
    have h2 := c3.2.2
    rw [h] at h2
    exact (Option.some.inj h2).symm
  have hp : PreV s H y.cls b (PcX b t G (vX (some b) :: as) σ) (as.map (cv G)) := ⟨PcX_blind _ _ _ _ _, by rw [hcl]; exact hrecv, fun U hU hW => ⟨rfl, by rw [hU]; exact hP, hPK.moved hW, SX.to S hW (by rw [hU]; exact hS.2.1)⟩⟩
  have hstk : (F0 m pc sl ((as.reverse ++ vX (some b) :: rest).map (cv G))).stack = (as.map (cv G)).reverse ++ .ref b :: rest.map (cv G) := by
    show List.map _ _ = _
    rw [List.map_append, List.map_reverse]; rfl
  have k2 : ∀ (r : Option AV) σ', Dt (some v) σ r σ' → V_8 (p, l, e, R, s, m, args, below, meth, c, G, nL, ck, sk, Q) (pc + 3) ls (r.toList ++ rest) σ' := fun r σ' h => by obtain ⟨rfl, rfl⟩ := h; exact k
  rcases lk with lk | ⟨host, lk⟩
  · exact V_after_8 (va_runV (b := b) (As := as.map (cv G)) (rest := rest.map (cv G)) ⟨hx, hb, hml, hown, hts⟩ hM ⟨⟨rfl, rfl, hRm.1, hRm.2, hpay, List.mem_cons_self, hts _ c1, hts _ c2, ⟨c3.1, c3.2.1⟩, hlen, hts _ lk⟩, hts _ v1, hts _ v2⟩ hp rfl (by rw [List.length_map]; exact hn) hL.1 hstk (rm_sum hroom) d ⟨hck, hsk⟩) hS hL k2
  · exact V_after_8 (va_runVN (b := b) (As := as.map (cv G)) (rest := rest.map (cv G)) ⟨hx, hb, hml, hown, hts⟩ hM ⟨⟨⟨rfl, rfl, hRm.1, hRm.2, hpay, List.mem_cons_self⟩, hts _ c1, hts _ c2, ⟨c3.1, c3.2.1⟩, hlen, va_Nw.use (by rfl) (hPK.2 _ lk)⟩, hts _ v1, hts _ v2⟩ hp rfl (by rw [List.length_map]; exact hn) hL.1 hstk (rm_sum hroom) d ⟨hck, hsk⟩) hS hL k2
theorem VX_callS (C : Cx_8 X cc own) (S : SA X b t) {index nL2 n rF rL : Nat} {y : MethodName} {bb : ByteArray} {ret : Option FieldType} {as rest : List AV} {v : Option AV} (d : decode cc pc = .ok (.invokestatic index, 3)) (lk : LK own index y) (cm : CMs y bb nL2 ret n) (sm : SM y) (hM : CtX b t (xL X) (xG X) y bb nL2 ret rF rL as σ (Dt v σ))
    (hn : as.length = n) (hst : st = as.reverse ++ rest) (hroom : (rest.map avc).sum ≤ 8) (hRm : Rm X (rF + 1) (8 + (nL2 + 11) + rL)) (k : V_8 X (pc + 3) ls (v.toList ++ rest) σ) : V_8 X pc ls st σ := by
  subst hst
  obtain ⟨p, l, e, R, s, m, args, below, meth, c, G, nL, ck, sk, Q⟩ := X
  obtain ⟨hx, hb, hml, hown, hlk, hts, hPK, hap, hck, hsk⟩ := C
  intro hR H locs sl hP hS hL
  have hM := hM hap hR
  obtain ⟨c1, c2, c3, c4⟩ := cm
  have hpay := gw_pay (nL := nL2) (ret := ret) hts c1
  have hlen : ∀ sig, parseMethodDescriptor y.desc = some sig → n = sig.parameters.length := by
    intro sig h
    have h2 := c3.2.2
    rw [h] at h2
    exact (Option.some.inj h2).symm
  have hp : PreS s H (PcX b t G as σ) (as.map (cv G)) := ⟨PcX_blind _ _ _ _ _, fun U hU hW => ⟨rfl, by rw [hU]; exact hP, hPK.moved hW, SX.to S hW (by rw [hU]; exact hS.2.1)⟩⟩
  have hstk : (F0 m pc sl ((as.reverse ++ rest).map (cv G))).stack = (as.map (cv G)).reverse ++ rest.map (cv G) := by
    show List.map _ _ = _
    rw [List.map_append, List.map_reverse]
  have k2 : ∀ (r : Option AV) σ', Dt v σ r σ' → V_8 (p, l, e, R, s, m, args, below, meth, c, G, nL, ck, sk, Q) (pc + 3) ls (r.toList ++ rest) σ' := fun r σ' h => by obtain ⟨rfl, rfl⟩ := h; exact k
  rcases lk with lk | ⟨host, lk⟩
  · exact V_after_8 (va_runS (As := as.map (cv G)) (rest := rest.map (cv G)) ⟨hx, hb, hml, hown, hts⟩ hM ⟨⟨rfl, rfl, hRm.1, hRm.2, hpay, List.mem_cons_self, hts _ c1, hts _ c2, ⟨c3.1, c3.2.1⟩, hlen, hts _ lk⟩, hts _ sm⟩ hp rfl (by rw [List.length_map]; exact hn) hL.1 hstk (rm_sum hroom) d ⟨hck, hsk⟩) hS hL k2
  · exact V_after_8 (va_runSN (As := as.map (cv G)) (rest := rest.map (cv G)) ⟨hx, hb, hml, hown, hts⟩ hM ⟨⟨⟨rfl, rfl, hRm.1, hRm.2, hpay, List.mem_cons_self⟩, hts _ c1, hts _ c2, ⟨c3.1, c3.2.1⟩, hlen, va_Nw.use (by rfl) (hPK.2 _ lk)⟩, hts _ sm, trivial⟩ hp rfl (by rw [List.length_map]; exact hn) hL.1 hstk (rm_sum hroom) d ⟨hck, hsk⟩) hS hL k2
end VX

theorem cj_coder (b t : Nat) (l : Launch) (G : GE) (σ : Wd) : CtX b t l G yj_coder bj_coder 1 (some (.byte)) 0 0 [vX (some b)] σ (Dt (some (vI 0)) σ) := by
  refine CtX.of cmj_coder (Nat.le_of_ble_eq_true rfl) ?_
  intro X hXl hXG hXN hRm C E S
  subst hXl; subst hXG
  refine VX_cs (pc := 0) C S (dk kj_coder 0 rfl) ?_
  refine V_ifeq_8 (pc := 3) C (dk kj_coder 1 rfl) 13 rfl ⟨by decide, by decide⟩ (fun h => absurd h (by decide)) (fun _ => ?_)
  refine V_aloadX_n_8 (pc := 6) C (dk kj_coder 2 rfl) rfl ?_
  refine VX_coder (pc := 7) C S (dk kj_coder 3 rfl) ?_
  refine V_goto_8 (pc := 10) C (dk kj_coder 4 rfl) 14 rfl ?_
  exact VX_bret (pc := 14) C E (dk kj_coder 6 rfl) ⟨rfl, rfl⟩
theorem cj_isL (b t : Nat) (l : Launch) (G : GE) (σ : Wd) : CtX b t l G yj_isL bj_isL 1 (some (.boolean)) 0 0 [vX (some b)] σ (Dt (some (vI 1)) σ) := by
  refine CtX.of cmj_isL (Nat.le_of_ble_eq_true rfl) ?_
  intro X hXl hXG hXN hRm C E S
  subst hXl; subst hXG
  refine VX_cs (pc := 0) C S (dk kj_isL 0 rfl) ?_
  refine V_ifeq_8 (pc := 3) C (dk kj_isL 1 rfl) 17 rfl ⟨by decide, by decide⟩ (fun h => absurd h (by decide)) (fun _ => ?_)
  refine V_aloadX_n_8 (pc := 6) C (dk kj_isL 2 rfl) rfl ?_
  refine VX_coder (pc := 7) C S (dk kj_isL 3 rfl) ?_
  refine V_ifne_8 (pc := 10) C (dk kj_isL 4 rfl) 17 rfl R0 (fun h => absurd rfl h) (fun _ => ?_)
  refine V_iconst_8 (pc := 13) C (dk kj_isL 5 rfl) rfl ?_
  refine V_goto_8 (pc := 14) C (dk kj_isL 6 rfl) 18 rfl ?_
  exact VX_zret (pc := 18) C E (dk kj_isL 7 rfl) ⟨rfl, rfl⟩
theorem cj_length (b t : Nat) (l : Launch) (G : GE) (σ : Wd) : CtX b t l G yj_length bj_length 1 (some (.int)) 1 20 [vX (some b)] σ (Dt (some (vI 108)) σ) := by
  refine CtX.of cmj_length (Nat.le_of_ble_eq_true rfl) ?_
  intro X hXl hXG hXN hRm C E S
  subst hXl; subst hXG
  refine V_aloadX_n_8 (pc := 0) C (dk kj_length 0 rfl) rfl ?_
  refine VX_value (pc := 1) C S (dk kj_length 1 rfl) ?_
  refine VX_blen (pc := 4) C S (dk kj_length 2 rfl) ?_
  refine V_aloadX_n_8 (pc := 5) C (dk kj_length 3 rfl) rfl ?_
  refine VX_callV (pc := 6) (as := []) C S (dk kj_length 4 rfl) (Or.inl (gw_in (82 + 252) (by decide +kernel) rfl)) cmj_coder vmj_coder (cj_coder b t _ _ σ) rfl rfl rfl (Nat.le_of_ble_eq_true rfl) (hRm.mono (by decide) (by decide)) ?_
  refine V_ishr_8 (pc := 9) C (dk kj_length 5 rfl) ⟨by decide, by decide⟩ (by decide) (by decide) (by decide) ?_
  exact V_iret_8 (pc := 10) C E (dk kj_length 6 rfl) ⟨by decide, rfl⟩
theorem cj_ckp (b t : Nat) (l : Launch) (G : GE) (σ : Wd) (i : Int) (o : Option Nat) (h0 : 0 ≤ i) (h1 : i < 108) : CtX b t l G yj_ckp bj_ckp 3 (some (.int)) 0 0 [vI i, vI 108, vX o] σ (Dt (some (vI i)) σ) := by
  refine CtX.of cmj_ckp (Nat.le_of_ble_eq_true rfl) ?_
  intro X hXl hXG hXN hRm C E S
  subst hXl; subst hXG
  refine V_iload_n_8 (pc := 0) C (dk kj_ckp 0 rfl) rfl ?_
  refine V_iflt_8 (pc := 1) C (dk kj_ckp 1 rfl) 9 rfl ⟨by omega, by omega⟩ (fun h => absurd h (by omega)) (fun _ => ?_)
  refine V_iload_n_8 (pc := 4) C (dk kj_ckp 2 rfl) rfl ?_
  refine V_iload_n_8 (pc := 5) C (dk kj_ckp 3 rfl) rfl ?_
  refine V_icmplt_8 (pc := 6) C (dk kj_ckp 4 rfl) 16 rfl ⟨by omega, by omega⟩ ⟨by decide, by decide⟩ (fun _ => ?_) (fun h => absurd h1 h)
  refine V_iload_n_8 (pc := 16) C (dk kj_ckp 5 rfl) rfl ?_
  exact V_iret_8 (pc := 17) C E (dk kj_ckp 6 rfl) ⟨rfl, rfl⟩
theorem cj_cki (b t : Nat) (l : Launch) (G : GE) (σ : Wd) (i : Int) (h0 : 0 ≤ i) (h1 : i < 108) : CtX b t l G yj_cki bj_cki 2 (none) 1 22 [vI i, vI 108] σ (Dt (none) σ) := by
  refine CtX.of cmj_cki (Nat.le_of_ble_eq_true rfl) ?_
  intro X hXl hXG hXN hRm C E S
  subst hXl; subst hXG
  refine V_iload_n_8 (pc := 0) C (dk kj_cki 0 rfl) rfl ?_
  refine V_iload_n_8 (pc := 1) C (dk kj_cki 1 rfl) rfl ?_
  refine VX_sf (pc := 2) C S (dk kj_cki 2 rfl) (fun o => ?_)
  refine VX_callS (pc := 5) C S (dk kj_cki 3 rfl) (Or.inl (gw_in (82 + 274) (by decide +kernel) rfl)) cmj_ckp smj_ckp (cj_ckp b t _ _ σ i o h0 h1) rfl rfl (Nat.le_of_ble_eq_true rfl) (hRm.mono (by decide) (by decide)) ?_
  refine V_popI_8 (pc := 8) (z := i) (st := []) C (dk kj_cki 4 rfl) ?_
  exact V_vret_8 (pc := 9) C E (dk kj_cki 5 rfl) ⟨rfl, rfl⟩
theorem cj_lch (b t : Nat) (l : Launch) (G : GE) (σ : Wd) (i : Int) (h0 : 0 ≤ i) (h1 : i < 108) : CtX b t l G yj_lch bj_lch 2 (some (.char)) 2 43 [vX (some t), vI i] σ (Dt (some (vI (FT.getD i.toNat 0))) σ) := by
  refine CtX.of cmj_lch (Nat.le_of_ble_eq_true rfl) ?_
  intro X hXl hXG hXN hRm C E S
  subst hXl; subst hXG
  have hc := FT_c (i := i.toNat) (by omega)
  refine V_iload_n_8 (pc := 0) C (dk kj_lch 0 rfl) rfl ?_
  refine V_aloadX_n_8 (pc := 1) C (dk kj_lch 1 rfl) rfl ?_
  refine VX_blen (pc := 2) C S (dk kj_lch 2 rfl) ?_
  refine VX_callS (pc := 3) (rest := []) C S (dk kj_lch 3 rfl) (Or.inl (gw_in (82 + 269) (by decide +kernel) rfl)) cmj_cki smj_cki (cj_cki b t _ _ σ i h0 h1) rfl rfl (Nat.le_of_ble_eq_true rfl) (hRm.mono (by decide) (by decide)) ?_
  refine V_aloadX_n_8 (pc := 6) C (dk kj_lch 4 rfl) rfl ?_
  refine V_iload_n_8 (pc := 7) C (dk kj_lch 5 rfl) rfl ?_
  refine VX_bald (pc := 8) C S h0 h1 (dk kj_lch 6 rfl) ?_
  refine V_sipush_8 (pc := 9) (n' := 255) C (dk kj_lch 7 rfl) rfl ?_
  refine V_iand_8 (pc := 12) C (dk kj_lch 8 rfl) ⟨by omega, by omega⟩ ⟨by decide, by decide⟩ (by omega) (by decide) ?_
  have e : (((FT.getD i.toNat 0).toNat &&& (255 : Int).toNat : Nat) : Int) = FT.getD i.toNat 0 := by
    have e1 : (FT.getD i.toNat 0).toNat &&& (255 : Int).toNat = (FT.getD i.toNat 0).toNat % 256 := Nat.and_two_pow_sub_one_eq_mod _ 8
    rw [e1]; omega
  rw [e]
  refine V_i2c_8 (pc := 13) C (dk kj_lch 9 rfl) (by omega) (by omega) ?_
  exact V_cret_8 (pc := 14) C (by omega) (by omega) E (dk kj_lch 10 rfl) ⟨rfl, rfl⟩
theorem cj_charAt (b t : Nat) (l : Launch) (G : GE) (σ : Wd) (i : Int) (h0 : 0 ≤ i) (h1 : i < 108) : CtX b t l G yj_charAt bj_charAt 2 (some (.char)) 3 64 [vX (some b), vI i] σ (Dt (some (vI (FT.getD i.toNat 0))) σ) := by
  refine CtX.of cmj_charAt (Nat.le_of_ble_eq_true rfl) ?_
  intro X hXl hXG hXN hRm C E S
  subst hXl; subst hXG
  have hc := FT_c (i := i.toNat) (by omega)
  refine V_aloadX_n_8 (pc := 0) C (dk kj_charAt 0 rfl) rfl ?_
  refine VX_callV (pc := 1) (as := []) C S (dk kj_charAt 1 rfl) (Or.inl (gw_in (82 + 262) (by decide +kernel) rfl)) cmj_isL vmj_isL (cj_isL b t _ _ σ) rfl rfl rfl (Nat.le_of_ble_eq_true rfl) (hRm.mono (by decide) (by decide)) ?_
  refine V_ifeq_8 (pc := 4) C (dk kj_charAt 2 rfl) 16 rfl ⟨by decide, by decide⟩ (fun h => absurd h (by decide)) (fun _ => ?_)
  refine V_aloadX_n_8 (pc := 7) C (dk kj_charAt 3 rfl) rfl ?_
  refine VX_value (pc := 8) C S (dk kj_charAt 4 rfl) ?_
  refine V_iload_n_8 (pc := 11) C (dk kj_charAt 5 rfl) rfl ?_
  refine VX_callS (pc := 12) (rest := []) C S (dk kj_charAt 6 rfl) (Or.inl (gw_in (82 + 266) (by decide +kernel) rfl)) cmj_lch smj_lch (cj_lch b t _ _ σ i h0 h1) rfl rfl (Nat.le_of_ble_eq_true rfl) (hRm.mono (by decide) (by decide)) ?_
  exact V_cret_8 (pc := 15) C (by omega) (by omega) E (dk kj_charAt 7 rfl) ⟨rfl, rfl⟩
