/-! the law's start -/
theorem kn_of {own : String} {index ci : Nat} {args : Array Value} {s : State} (nt : NWq own index ci) (hts : ∀ w ∈ gw, w.before args s = true) : ∃ q : ClassId × (Nat → Nat), ∀ r, CL[ci]? = some r → u_Kn s r.1 r.2.1 r.2.2 q.1 q.2 := by
  obtain ⟨Cn, Tn, N, ty, n1, n2, n3, n4, n5, n6, n7, n8⟩ := nt
  obtain ⟨cC, iS, h⟩ := u_known hts n2 (hts _ n7)
  exact ⟨(cC, iS), fun r hr => by rw [n1] at hr; cases hr; exact h⟩
theorem at_PK {args : Array Value} {s : State} (hts : ∀ w ∈ lw_tbl, w.before args s = true) : ∃ G : GE, PK G s ∧ ∀ k, gA G k = s.heap.size + k := by
  have hg : ∀ w ∈ gw, w.before args s = true := fun w hw => hts w (List.mem_filter.mp hw).1
  have h0 : ∀ c : Nat, ∃ q : ClassId × (Nat → Nat), ∀ r, CL[c]? = some r → u_Kn s r.1 r.2.1 r.2.2 q.1 q.2 := by
    intro c
    by_cases hc : c < 10
    · have : c = 0 ∨ c = 1 ∨ c = 2 ∨ c = 3 ∨ c = 4 ∨ c = 5 ∨ c = 6 ∨ c = 7 ∨ c = 8 ∨ c = 9 := by omega
      rcases this with rfl | rfl | rfl | rfl | rfl | rfl | rfl | rfl | rfl | rfl
      · exact kn_of nw_F_60 hg
      · exact kn_of nw_F_67 hg
      · exact kn_of nw_F_7 hg
      · exact kn_of nw_F_53 hg
      · exact kn_of nw_F_43 hg
      · exact kn_of nw_F_23 hg
      · exact kn_of nw_F_16 hg
      · exact kn_of nw_F_33 hg
      · exact kn_of nw_W_7 hg
      · exact kn_of nw_W_10 hg
    · exact ⟨(0, fun _ => 0), fun r hr => absurd (List.getElem?_eq_some_iff.mp hr).1 (by show ¬ c < 10; omega)⟩
  obtain ⟨f, hf⟩ := Classical.axiomOfChoice h0
  obtain ⟨cI, kI, compI, i1, i2, i3⟩ := Cond.arrayClass_spec (hg _ gw_arrI)
  obtain ⟨cC, kC, compC, j1, j2, j3⟩ := Cond.arrayClass_spec (hg _ gw_arrC)
  obtain ⟨compS, cS, kS, l1, l2, l3, l4, l5⟩ := Cond.arrayOver_spec (n := "ForgoneShop$Stand") (hts _ (List.mem_of_getElem? (i := 82 + 151) (by decide +kernel)))
  refine ⟨((fun c => (f c).1, fun c => (f c).2), (cI, (cC, (cS, fun k => s.heap.size + k)))), ⟨⟨fun c q hq => hf c q hq, fun k q hk => ?_⟩, fun wd hw => ?_⟩, fun k => rfl⟩
  · have hk3 : k < 3 := (List.getElem?_eq_some_iff.mp hk).1
    have : k = 0 ∨ k = 1 ∨ k = 2 := by omega
    rcases this with rfl | rfl | rfl
    · cases hk
      exact ⟨fun n z => ⟨fun k h => (by cases h), kI, i2, compI, i3⟩, i1⟩
    · cases hk
      exact ⟨fun n z => ⟨fun k h => (by cases h), kC, j2, compC, j3⟩, j1⟩
    · cases hk
      exact ⟨fun n z => ⟨fun k h => (by cases h), kS, l3, compS, l4⟩, kS, compS, l3, l4, l1, l5⟩
  · have hn : isNest wd = true := (List.mem_filter.mp hw).2
    have ho : wd.onTables = true := by cases wd <;> first | rfl | cases hn
    exact va_Nw.of ho (hts wd (List.mem_filter.mp hw).1)
theorem at_el : ∀ j, j < 108 → Cond.eq (.elem (.field (.string "ForgoneShop" 74) "java/lang/String" "value" "[B") (.int (Int32.ofNat j))) (.int (FTb.getD j 0)) ∈ flatC (Jvm.Cond.and given_1 narrow_1) := by decide +kernel
theorem at_SX {G : GE} {args : Array Value} {s : State} (hts : ∀ w ∈ lw_tbl, w.before args s = true) (hgv : (Jvm.Cond.and given_1 narrow_1).before args s = true) (hA : ∀ a : Nat, a < s.heap.size → ¬ AG_8 G a) : ∃ b t : Nat, SX G b t s := by
  have hs := flat_of_before _ hgv
  obtain ⟨adK, adV, hS, hev⟩ := vk_Sof (args := args) (s := s) (N := 1) (tm := fun _ => .string "ForgoneShop" 74) (len := [108]) (byt := [FTb]) (A := AG_8 G) (fun i hi => by (obtain rfl : i = 0 := by omega); decide) (fun i hi => hs _ (by decide +kernel)) (fun i hi => hs _ (by decide +kernel)) (fun i hi => hs _ (by decide +kernel)) (fun i hi => by (obtain rfl : i = 0 := by omega); exact hs _ (by decide +kernel)) (fun i hi j hj => by (obtain rfl : i = 0 := by omega); exact hs _ (at_el j hj)) (fun i j hi hj hij => absurd (show i = j by omega) hij) hA
  refine ⟨adK 0, adV 0, ⟨fun i hi => by (obtain rfl : i = 0 := by omega); exact hS.1 0 hi, fun i j hi hj _ => by omega⟩, vk_R.of (hts _ (List.mem_of_getElem? (i := 82 + 247) (by decide +kernel))) (hev 0 (by decide)), va_Zof (hts _ (List.mem_of_getElem? (i := 82 + 257) (by decide +kernel))) (hts _ (List.mem_of_getElem? (i := 82 + 10) (by decide +kernel))) (va_eqi (hs _ (by decide +kernel))) hA, va_Zqof (hts _ (List.mem_of_getElem? (i := 82 + 273) (by decide +kernel))) (hts _ (List.mem_of_getElem? (i := 82 + 12) (by decide +kernel))) (hs _ (by decide +kernel)) hA⟩
set_option maxRecDepth 20000 in
theorem law_start {X : KX} {b L b' t' : Nat} {xs : Nat → Int32} (C : CN X b_W_law "ForgoneShopLaw") (hr : RN X 150 2583) (hRm : Rm X 8 300) (hXN : xN X = 4) (S : LX (xset X 150 2583) b L xs) (hFX : XiC X (FX (xG X) b' t') 128) (hL : L ≤ 384) (hend : ∀ ls τ, V (xset X 150 2583) 941 ls [vI 1] τ) : VN X 150 0 0 0 0 0 (ents 4 [vX (some b)]) [] (fun _ _ => 0) := by
  refine VN_new (pc := 0) (wn := 0) (wn' := 1) (wc' := 1) (wq' := 11) C (dk k_W_law_0 0 rfl) nw_W_7 kq_0 (by decide) (Or.inr rfl) (Nat.le_refl _) (fun _ => rfl) rfl rfl rfl (hr.le (by decide) (by decide)) ?_
  refine VN_dupR (pc := 3) C (dk k_W_law_0 1 rfl) ?_
  refine VN_callI (pc := 4) (wn' := 128) (wc' := 128) (wq' := 1635) C (dk k_W_law_0 2 rfl) li_W_9 cm_F_init rfl ii_F (c_F_init (xL X) (xG X) b' t' _ ⟨mks_nil (fun _ => rfl), fun a h1 h2 => absurd h1 (by omega), fun _ _ _ => rfl⟩) hFX (by decide) (show 1 ≤ 8 by decide) (hRm.mono (by decide) (by decide)) rfl rfl rfl (hr.le (by decide) (by decide)) (Or.inl (by decide)) (by decide) (fun τ1 q1 => ?_)
  refine VN_astore_n (pc := 7) C (dk k_W_law_0 3 rfl) (by rw [hXN]; decide) ?_
  refine VN_new (pc := 8) (wn := 128) (wn' := 129) (wc' := 129) (wq' := 1674) C (dk k_W_law_0 4 rfl) nw_W_10 kq_128 (by decide) (Or.inl (by decide)) (Nat.le_refl _) (q1.2 128 (Nat.le_refl _)) rfl rfl rfl (hr.le (by decide) (by decide)) ?_
  refine VN_dupR (pc := 11) C (dk k_W_law_0 5 rfl) ?_
  refine VN_callI (pc := 12) (wn' := 150) (wc' := 150) (wq' := 2583) C (dk k_W_law_0 6 rfl) li_W_12 cm_Z_init rfl ii_Z (c_Z_init (xL X) (xG X) τ1 q1.2) XiC_no (by decide) (show 1 ≤ 8 by decide) (hRm.mono (by decide) (by decide)) rfl rfl rfl (hr.le (by decide) (by decide)) (Or.inl (by decide)) (by decide) (fun τ2 q2 => ?_)
  refine VN_astore_n (pc := 15) C (dk k_W_law_0 7 rfl) (by rw [hXN]; decide) ?_
  refine VN_iconst (pc := 16) C (dk k_W_law_0 8 rfl) rfl ?_
  refine VN_istore_n (pc := 17) C (dk k_W_law_0 9 rfl) (by rw [hXN]; decide) ?_
  refine VN_V (fun G => (wsM_O G τ2).symm) (fun hz0 => ?_)
  have hV := VK.lay (tx := FT) FT_ok.2 (j := 0) (Int.le_refl 0)
  rw [FT_read] at hV
  have hI : LI ((0 : Nat) : Int) τ2 := ⟨12, 5, piO FD, stO FD, [], [], [], [], q1.1.fm (fun k hk => q2.2 k hk), q2.1, hV⟩
  exact V_eq (law_loop (C.x hr) S (Rm_x hRm 150 2583) ((xN_x X 150 2583).trans hXN) hL hend 64 0 rfl (Nat.zero_le _) τ2 hI) rfl rfl rfl
/-! THE CLAIM OUT OF ONE WALK OF THE LAW'S BODY. Your part is whole_start (and what it stands on); all else here is the same for every law, but numbers. -/
def R_law : String := "ForgoneShopLaw"
def lw_P (b : Addr) (xs : List Int32) (args : Array Value) (s : State) : Prop := args = #[.ref b] ∧ s.IntsAt b xs ∧ xs.length ≤ 384 ∧ (Jvm.Cond.and given_1 narrow_1).before args s = true
def lw_Q (_ : Array Value) (s : State) (o : Outcome) (t : State) : Prop := o = .returned (some (.int 1)) ∧ Framed s o t [] 600000 7302249
def lw_Z (below : List Frame) (a : Array Value) (s : State) : State → Prop := fun t => ∃ o, t.status = .running ∧ Ended t below o ∧ lw_Q a s o t
/-- the law's own end, with 1 on the stack, nothing written that was there before, its room as the claim has it -/
theorem lw_ret {p : Program} {l : Launch} {e : Env} {s : State} {m : MethodId} {below : List Frame} {meth : Method} {c : Code} {b : Nat} (hx : p.tables.exec = Jvm.exec) (hb : c.code = code) (hr : meth.sig.returnType = ret) (hlocks : meth.locks = false) {pc : Nat} {H : Heap} {ls : Array Slot} (hdg : decode code pc = .ok (.ireturn, 1)) : W p l e room_1 s m #[Value.ref b] below meth c H [] 600000 7302249 (lw_Z below #[Value.ref b] s) (F0 m pc ls [.int 1]) := by
  intro T hT X
  obtain ⟨fs, hret, hrun, hended, hW, hframe⟩ := X.leave (v := some (.int 1)) (hlocks := hlocks) (fun h => by rw [hr] at h; cases h)
  have hmeth' : T.vm.method? m = some meth := X.method'
  refine ⟨T.setFrames fs, ?_, .returned (some (.int 1)), hrun, hended, rfl, ⟨_, rfl⟩, hW, hframe⟩
  jvm_step X.here [X.here.top, hx, hb, hdg, hmeth', hr, ret, narrow_b1]
  (try refine ⟨rfl, ?_⟩); (try refine ⟨rfl, ?_⟩)
  first | (intro acts; rw [hret _ acts rfl rfl rfl]) | rw [hret _ _ rfl rfl rfl]
  exact Steps.refl _
/-- what holds at the law's entry: the machine, the code, the tables' words (any of lw_tbl by 'hts w (by decide +kernel)'), the script of L ints xs at the cell b, what the Statement gives of the start (any of its parts by flat_of_before) -/
def lw_At (p : Program) (s : State) (m : MethodId) (meth : Method) (c : Code) (b L : Nat) (xs : Nat → Int32) : Prop :=
  p.tables.exec = Jvm.exec ∧ c.code = code ∧ meth.sig.returnType = ret ∧ c.maxLocals = 4 ∧ s.vm.findClass R_law = some m.cls ∧ (∀ w ∈ lw_tbl, w.before #[Value.ref b] s = true) ∧ va_X b L xs s s.heap ∧ b < s.heap.size ∧ meth.locks = false ∧ (Jvm.Cond.and given_1 narrow_1).before #[Value.ref b] s = true
-- ===== YOUR PART BEGINS =====
/-- YOUR PART: from the entry, for every script of at most 384 ints, the law comes to its end with true ('hflags': the launch's flags, for a law that throws: no stack traces) -/
theorem whole_start {p : Program} {e : Env} {s : State} {m : MethodId} {below : List Frame} {meth : Method} {c : Code} (l : Launch) (hflags : l.flags = flags0) {b L : Nat} {xs : Nat → Int32} (hL : L ≤ 384) (C0 : lw_At p s m meth c b L xs) : W p l e room_1 s m #[Value.ref b] below meth c s.heap [] 0 0 (lw_Z below #[Value.ref b] s) (entryFrame m ([Value.ref b] : List Value).toArray 4) := by
  obtain ⟨h1, h2, h3, h4, h5, hts, hX, hbl, hlk, hgv⟩ := C0
  obtain ⟨G, hPK, hA⟩ := at_PK hts
  have hlin : lin G := fun k => by rw [hA k, hA 0]; omega
  have hA8 : ∀ a : Nat, a < s.heap.size → ¬ AG_8 G a := fun a ha ⟨k, _, e⟩ => by rw [hA k] at e; omega
  have hbA : ¬ AG G b := fun ⟨k, _, e⟩ => by rw [hA k] at e; omega
  obtain ⟨b', t', hSX⟩ := at_SX (G := G) hts hgv hA8
  have hAO : AO s := va_AO.of (hts _ (List.mem_of_getElem? (i := 82 + 151) (by decide +kernel)))
  have C : CN (p, l, e, room_1, s, m, #[Value.ref b], below, meth, c, G, 4, 0, 0, lw_Z below #[Value.ref b] s) b_W_law "ForgoneShopLaw" := ⟨h1, h2, h4, h5, hlk, fun wd hw => hts wd (List.mem_filter.mp hw).1, hPK, hlin⟩
  have hFX : XiC (p, l, e, room_1, s, m, #[Value.ref b], below, meth, c, G, 4, 0, 0, lw_Z below #[Value.ref b] s) (FX G b' t') 128 := ⟨fun U g mk a h => ⟨va_AO.moved (u := U) (Vm.Alike.refl U.vm) h.1, SX.blind U g mk a h.2⟩, fun U H hU hW hq => ⟨va_AO.moved hW.alike hAO, SX.to hSX hW (by rw [hU]; exact hq)⟩⟩
  have hend : ∀ ls τ, V (p, l, e, room_1, s, m, #[Value.ref b], below, meth, c, G, 4, 150, 2583, lw_Z below #[Value.ref b] s) 941 ls [vI 1] τ := by
    intro ls τ hR H locs sl hP hS hL'
    refine va_forget (fun q hq => ?_) (W.widen (by decide) (by decide) (lw_ret h1 h2 h3 hlk (dk k_W_law_21 1 rfl)))
    obtain ⟨k, _, e⟩ := hS.2.2 q hq
    rw [e, hA k]
    exact Nat.le_add_right _ _
  have K := law_start (X := (p, l, e, room_1, s, m, #[Value.ref b], below, meth, c, G, 4, 0, 0, lw_Z below #[Value.ref b] s)) (b := b) (L := L) (xs := xs) C ⟨by decide, by decide⟩ ⟨by decide, by decide⟩ rfl ⟨hX, hbl, hbA⟩ hFX hL hend
  rw [lg_entry_eq]
  refine K (fun _ _ => R0) (by rw [hA 0]) s.heap [] _ (fun k q hq => by simp [wsM] at hq) va_S.rf ?_
  have hl := lv_entry (([vX (some b)] : List AV).map (cv G)) (n := 4) (by rw [lg_len]; exact (show 1 ≤ 4 by decide))
  refine ⟨hl.1, hl.2.1, fun i a hi => ?_⟩
  have := entL_mem G [vX (some b)] 0 i a (ents_get hi)
  rw [Nat.zero_add] at this
  exact hl.2.2 _ this
-- ===== YOUR PART ENDS =====
set_option maxHeartbeats 4000000 in
theorem lw_walk (l : Launch) (hflags : l.flags = flags0) (b : Addr) (xs : List Int32) : MetFree l x (headSpec (Jvm.Cond.code x code maxLocals ret :: tables_1) room_1) (lw_P b xs) (fun _ _ _ _ _ => True) lw_Q := by
  refine MetFree.of_bodyS (code := code) (maxLocals := maxLocals) (ret := ret) (by decide) ?_ ?_
  · intro args s m h hn
    obtain ⟨meth, c, h1, h2, h3, h4, h5, h6, -, -⟩ := Cond.code_spec hn (atoms_spec (ws := Jvm.Cond.code x code maxLocals ret :: tables_1) h _ List.mem_cons_self)
    exact ⟨meth, c, h1, h2, h3, h4, h5, h6⟩
  · intro p e s m args below meth c s₁ B hml0 hP _
    obtain ⟨rfl, hx, hbd, hgv⟩ := hP
    obtain ⟨scr, harrAt, hlist, hof, hsmall⟩ := hx
    obtain ⟨hcb, hkn, -, -⟩ := State.arrayAt?_spec harrAt
    have hown : s.vm.findClass R_law = some m.cls := findClass_of_methodNamed B.named
    have hts0 : ∀ c ∈ (Jvm.Cond.code x code maxLocals ret :: tables_1), c.before #[Value.ref b] s = true := atoms_spec (ws := Jvm.Cond.code x code maxLocals ret :: tables_1) B.pre
    have hts : ∀ w ∈ lw_tbl, w.before #[Value.ref b] s = true := k2_hts_sels lw_privs (fun w hw => hts0 w (List.mem_cons_of_mem _ hw)) lw_privs_ok
    have hml : c.maxLocals = 4 := B.maxLocals_eq (hts0 _ List.mem_cons_self)
    have X₀ : Stand p l e room_1 s m #[Value.ref b] below meth c s₁ [] 0 0 := Stand.of_body B
    have hh0 : s₁.heap = s.heap := by rw [B.state]; rfl
    have hsz : scr.slots.size = xs.length := by rw [← Array.length_toList, hlist, List.length_map]
    have hval : ∀ j : Nat, j < xs.length → scr.slots[j]? = some (.int (xs.getD j 0)) := fun j hj => by
      rw [← Array.getElem?_toList, hlist]
      simp [hj]
    have hbl : b < s.heap.size := (Array.getElem?_eq_some_iff.mp hcb).1
    have hX : va_X b xs.length (fun j => xs.getD j 0) s s.heap := ⟨scr, hcb, hof, hkn, hsz, hval⟩
    have K : W p l e room_1 s m #[Value.ref b] below meth c s₁.heap [] 0 0 (lw_Z below #[Value.ref b] s) (entryFrame m ([Value.ref b] : List Value).toArray 4) := by
      rw [hh0]
      exact whole_start l hflags hbd ⟨B.exec, B.bytes, B.returns, hml, hown, hts, hX, hbl, B.notSynchronized, hgv⟩
    obtain ⟨t, a1, o, b1, b2, b3⟩ := K s₁ rfl X₀
    exact ⟨t, o, a1, b1, b2, b3⟩
theorem lw_pre_spec {args : Array Value} {s : State} (h : (Jvm.Cond.and given_1 narrow_1).before args s = true) (hr : rest_1_c.before args s = true) : ∃ (b : Addr) (xs : List Int32), lw_P b xs args s := by
  have hs := flat_of_before _ h
  have hq := flat_of_before _ hr
  have hc : (Cond.count 1).before args s = true := hs _ (by decide +kernel)
  have harr : (Cond.arrayOf (.arg 0) .int).before args s = true := hs _ (by decide +kernel)
  have hle : (Cond.le (.length (.arg 0)) (.int 384)).before args s = true := hs _ (by decide +kernel)
  have hlen : (Cond.isInt (.length (.arg 0))).before args s = true := hq _ (by decide +kernel)
  have hall : (Cond.all (.arg 0) (.isInt (.elem (.arg 0) (.index 0)))).before args s = true := hq _ (by decide +kernel)
  obtain ⟨b, xs, hb, hx⟩ := State.ints_of_pre rfl harr hlen hall
  have hsm : xs.length < 2 ^ 31 := hx.choose_spec.2.2.2
  have hev : (Term.length (.arg 0)).eval args s none [] s = some (.int xs.length.toInt32) := hx.length_eval hb
  have hv := Cond.le_ints hev (show (Term.int 384).eval args s none [] s = some (.int 384) from rfl)
  have hd : xs.length.toInt32 ≤ 384 := by
    simpa [Cond.before, Cond.holds, hv] using hle
  have hN : xs.length ≤ 384 := (Int32.ofNat_le_ofNat hsm (by decide)).mp (show Int32.ofNat xs.length ≤ Int32.ofNat 384 from hd)
  exact ⟨b, xs, Cond.one_arg hc (show args[0]? = some (.ref b) from hb), hx, hN, h⟩
theorem lw_comes (l : Launch) (hflags : l.flags = flags0) : Comes l x (Jvm.Cond.code x code maxLocals ret :: tables_1) room_1 (fun tb e args s => Calls_1 tb e args s ∧ rest_1 tb e args s ∧ Pre_1 tb e args s)
    (fun _ _ args s o t => lw_Q args s o t) := by
  intro p e ha hc hk s m args below hf hfit hheap happ hpre
  obtain ⟨b, xs, hP⟩ := lw_pre_spec hpre.2.2 hpre.2.1
  obtain ⟨k, o, h1, h2, h3, hQ⟩ := lw_walk l hflags b xs p e ha hc hk s m args below hf ((Spec.applies_iff_loose hf).mp happ).1 hP trivial
  exact ⟨k, o, h1, h2, h3, hQ⟩
theorem lw_frame {s t : State} {o : Outcome} {args : Array Value} (h : Framed s o t [] 600000 7302249) :
    Framed s o t (fieldLocs frame_1_writes args s ++ arrayLocs frame_1_arrays args s ++ staticLocs frame_1_statics s) 600000 7302249 := h
theorem lw_limb (L : Cond) (hL : ∀ (args : Array Value) (s t : State), L.after args s (.returned (some (.int 1))) t = true) :
    ArmFor flags0 classFile x code maxLocals ret World_1 tables_1 room_1 Calls_1 rest_1 Pre_1
      (fun tb e a s o t => postC L tb e a s o t ∧ Framed s o t (fieldLocs frame_1_writes a s ++ arrayLocs frame_1_arrays a s ++ staticLocs frame_1_statics s) 600000 7302249) := by
  intro l hflags _ _ p e ha hc hk s m args below hf hfit hheap happ hpre
  obtain ⟨k, o, h1, h2, h3, rfl, hF⟩ := lw_comes l hflags p e ha hc hk s m args below hf hfit hheap happ hpre
  exact ⟨k, _, h1, h2, h3, hL args s _, lw_frame hF⟩
theorem i_vc : Claimed_1_1 ∧ Claimed_1_2 := ⟨lw_limb limb_1_1 (fun args s t => by simp [limb_1_1, Cond.after, Cond.holds, Cond.value]), lw_limb limb_1_2 (fun args s t => Cond.after_iff.mpr (by
  first | (rw [show limb_1_2 = Cond.eq .result (.int 1) from rfl, Cond.eq_ints (x := 1) (y := 1) rfl rfl]; simp; done) | (simp [limb_1_2, Cond.value, Term.eval]; done)))⟩
