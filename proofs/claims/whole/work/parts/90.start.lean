theorem zT_sub : ∀ w ∈ zT, w ∈ lw_tbl := fun w h => (List.mem_filter.mp h).1
theorem zD_of {s : State} {args : Array Value} (hts : ∀ w ∈ lw_tbl, w.before args s = true) : ∃ (dC : Nat → ClassId) (dI : Nat → Nat → Nat), ∀ (k : Nat) (q : vw_C), vwCl[k]? = some q → u_Kn s q.1 q.2.1 q.2.2 (dC k) (dI k) := by
  obtain ⟨c0, iS0, hKn0⟩ := u_known (C := RX0) (T := TX0) (N := 4) (n := 4) hts inX0 (hts _ (zT_sub _ wd_428))
  obtain ⟨c1, iS1, hKn1⟩ := u_known (C := RX1) (T := TX1) (N := 17) (n := 17) hts inX1 (hts _ (zT_sub _ wd_368))
  obtain ⟨c2, iS2, hKn2⟩ := u_known (C := RX2) (T := TX2) (N := 10) (n := 10) hts inX2 (hts _ (zT_sub _ wd_178))
  obtain ⟨c3, iS3, hKn3⟩ := u_known (C := RX3) (T := TX3) (N := 4) (n := 4) hts inX3 (hts _ (zT_sub _ wd_262))
  obtain ⟨c4, iS4, hKn4⟩ := u_known (C := RX4) (T := TX4) (N := 4) (n := 4) hts inX4 (hts _ (zT_sub _ wd_448))
  obtain ⟨c5, iS5, hKn5⟩ := u_known (C := RX5) (T := TX5) (N := 11) (n := 11) hts inX5 (hts _ (zT_sub _ wd_317))
  obtain ⟨c6, iS6, hKn6⟩ := u_known (C := RX6) (T := TX6) (N := 3) (n := 3) hts inX6 (hts _ (zT_sub _ wd_484))
  obtain ⟨c7, iS7, hKn7⟩ := u_known (C := RX7) (T := TX7) (N := 3) (n := 3) hts inX7 (hts _ (zT_sub _ wd_467))
  obtain ⟨c8, iS8, hKn8⟩ := u_known (C := RX8) (T := TX8) (N := 2) (n := 2) hts inX8 (hts _ (zT_sub _ wd_155))
  obtain ⟨c9, iS9, hKn9⟩ := u_known (C := RX9) (T := TX9) (N := 7) (n := 7) hts inX9 (hts _ (zT_sub _ wd_149))
  obtain ⟨c10, iS10, hKn10⟩ := u_known (C := RX10) (T := TX10) (N := 2) (n := 2) hts inX10 (hts _ (zT_sub _ wd_247))
  obtain ⟨c11, iS11, hKn11⟩ := u_known (C := RX11) (T := TX11) (N := 8) (n := 8) hts inX11 (hts _ (zT_sub _ wd_141))
  obtain ⟨c12, iS12, hKn12⟩ := u_known (C := RX12) (T := TX12) (N := 43) (n := 43) hts inX12 (hts _ (zT_sub _ wd_1392))
  refine ⟨fun k => if k = 0 then c0 else (if k = 1 then c1 else (if k = 2 then c2 else (if k = 3 then c3 else (if k = 4 then c4 else (if k = 5 then c5 else (if k = 6 then c6 else (if k = 7 then c7 else (if k = 8 then c8 else (if k = 9 then c9 else (if k = 10 then c10 else (if k = 11 then c11 else (c12)))))))))))), fun k => if k = 0 then iS0 else (if k = 1 then iS1 else (if k = 2 then iS2 else (if k = 3 then iS3 else (if k = 4 then iS4 else (if k = 5 then iS5 else (if k = 6 then iS6 else (if k = 7 then iS7 else (if k = 8 then iS8 else (if k = 9 then iS9 else (if k = 10 then iS10 else (if k = 11 then iS11 else (iS12)))))))))))), ?_⟩
  intro k q hq
  match k, hq with
    | 0, hq => cases hq; exact hKn0
    | 1, hq => cases hq; exact hKn1
    | 2, hq => cases hq; exact hKn2
    | 3, hq => cases hq; exact hKn3
    | 4, hq => cases hq; exact hKn4
    | 5, hq => cases hq; exact hKn5
    | 6, hq => cases hq; exact hKn6
    | 7, hq => cases hq; exact hKn7
    | 8, hq => cases hq; exact hKn8
    | 9, hq => cases hq; exact hKn9
    | 10, hq => cases hq; exact hKn10
    | 11, hq => cases hq; exact hKn11
    | 12, hq => cases hq; exact hKn12
    | k + 13, hq => simp [vwCl] at hq
theorem zty_prim {s : State} {args : Array Value} {ty : FieldType} (h : (Cond.arrayClass ty).before args s = true) (hra : ∀ c, s.vm.findClass ("[" ++ ty.toString) = some c → va_RA s c ty) : ∃ c, ArrOfT s c ty ∧ va_RA s c ty := by
  obtain ⟨c, k, comp, h1, h2, h3⟩ := Cond.arrayClass_spec h
  exact ⟨c, fun n z => ⟨fun k h => (by cases h), k, h2, comp, h3⟩, hra c h1⟩
theorem zty_obj {s : State} {C : String} (h : va_AO C s) : ∃ c, ArrOfT s c (.object C) ∧ va_RA s c (.object C) := by
  obtain ⟨comp, c, k, h1, h2, h3, h4, h5⟩ := Cond.arrayOver_spec h
  exact ⟨c, fun n z => ⟨fun k h => (by cases h), k, h3, comp, h4⟩, k, comp, h3, h4, h1, h5⟩
theorem zty_of {s : State} {args : Array Value} {D : va_G} (hD : ∀ (k : Nat) (q : vw_C), vwCl[k]? = some q → u_Kn s q.1 q.2.1 q.2.2 (D.1 k) (D.2 k)) (hts : ∀ w ∈ lw_tbl, w.before args s = true) : ∃ tys, va_K D vwCl tys s ∧ zTys tys := by
  obtain ⟨c0, a0, r0⟩ := zty_prim (s := s) (hts _ (zT_sub _ zacl.1)) (fun c h => h)
  obtain ⟨c1, a1, r1⟩ := zty_prim (s := s) (hts _ (zT_sub _ zacl.2.1)) (fun c h => h)
  obtain ⟨c2, a2, r2⟩ := zty_prim (s := s) (hts _ (zT_sub _ zacl.2.2)) (fun c h => h)
  obtain ⟨c3, a3, r3⟩ := zty_obj (va_AO.of (hts _ (zs_t.2.1 "ReedOracles$Duchy" (by decide))))
  obtain ⟨c4, a4, r4⟩ := zty_obj (va_AO.of (hts _ (zs_t.2.1 "ReedOracles$Log" (by decide))))
  obtain ⟨c5, a5, r5⟩ := zty_obj (va_AO.of (hts _ (zs_t.2.1 "ReedOracles$Told" (by decide))))
  obtain ⟨c6, a6, r6⟩ := zty_obj (va_AO.of (hts _ (zs_t.2.1 "ReedOracles$Year" (by decide))))
  refine ⟨[(c0, .int), (c1, .byte), (c2, .boolean), (c3, .object "ReedOracles$Duchy"), (c4, .object "ReedOracles$Log"), (c5, .object "ReedOracles$Told"), (c6, .object "ReedOracles$Year")], ⟨hD, ?_⟩, ⟨_, rfl⟩, ⟨_, rfl⟩, ⟨_, rfl⟩, ?_⟩
  · intro k q hq
    match k, hq with
    | 0, hq => cases hq; exact ⟨a0, r0⟩
    | 1, hq => cases hq; exact ⟨a1, r1⟩
    | 2, hq => cases hq; exact ⟨a2, r2⟩
    | 3, hq => cases hq; exact ⟨a3, r3⟩
    | 4, hq => cases hq; exact ⟨a4, r4⟩
    | 5, hq => cases hq; exact ⟨a5, r5⟩
    | 6, hq => cases hq; exact ⟨a6, r6⟩
    | k + 7, hq => simp at hq
  · intro C hC
    simp only [List.mem_cons, List.not_mem_nil, or_false] at hC
    rcases hC with rfl | rfl | rfl | rfl
    · exact ⟨3, _, _, rfl, rfl⟩
    · exact ⟨4, _, _, rfl, rfl⟩
    · exact ⟨5, _, _, rfl, rfl⟩
    · exact ⟨6, _, _, rfl, rfl⟩
set_option maxRecDepth 100000 in
theorem whole_start {p : Program} {e : Env} {s : State} {m : MethodId} {below : List Frame} {meth : Method} {c : Code} (l : Launch) (hflags : l.flags = flags0) {b L : Nat} {xs : Nat → Int32} (hL : L ≤ 3584) (C0 : lw_At p s m meth c b L xs) : W p l e room_1 s m #[Value.ref b] below meth c s.heap [] 0 0 (lw_Z below #[Value.ref b] s) (entryFrame m ([Value.ref b] : List Value).toArray 4) := by
  obtain ⟨hx, hb, hr, hml, hown, hts, hX, hbl, hlocks, hgv⟩ := id C0
  obtain ⟨dC, dI, hD⟩ := zD_of hts
  obtain ⟨tys, hK, hTys⟩ := zty_of (D := (dC, dI)) hD hts
  have hA : ∀ a : Nat, a < s.heap.size → ¬ zA s.heap.size a := fun a ha => Nat.not_le.mpr ha
  have hs := flat_of_before _ hgv
  have hini : ∀ C, Cond.initialized C ∈ lw_tbl → (Cond.initialized C).before #[Value.ref b] s = true := fun C h => hts _ h
  obtain ⟨t0, ht0, hT0⟩ := va_Tof (f := fun j => .int (i32 (zTb0.getD j 0))) (A := zA s.heap.size) (by decide) (hs _ zs_a0.1) (va_eqt (hs _ zs_a0.2)) (fun j hj => va_eqt (hs _ (zs_n0 j hj))) hA
  obtain ⟨t1, ht1, hT1⟩ := va_Tof (f := fun j => .int (i32 (zTb1.getD j 0))) (A := zA s.heap.size) (by decide) (hs _ zs_a1.1) (va_eqt (hs _ zs_a1.2)) (fun j hj => va_eqt (hs _ (zs_n1 j hj))) hA
  obtain ⟨t2, ht2, hT2⟩ := va_Tof (f := fun j => .int (i32 (zTb2.getD j 0))) (A := zA s.heap.size) (by decide) (hs _ zs_a2.1) (va_eqt (hs _ zs_a2.2)) (fun j hj => va_eqt (hs _ (zs_n2 j hj))) hA
  obtain ⟨adK, adV, hSt, hev⟩ := vk_Sof (args := #[Value.ref b]) (s := s) (N := 15) (tm := zStr) (len := zTx.map List.length) (byt := zTx.map (fun t => t.map i32)) (A := zA s.heap.size) (by decide +kernel) (fun i hi => hs _ (zs_ex i hi)) (fun i hi => hs _ (zs_co i hi)) (fun i hi => hs _ (zs_ar i hi)) (fun i hi => hs _ (zs_le i hi)) (fun i hi j hj => hs _ (zs_el i hi j hj)) (fun i j hi hj hij => by
    rcases Nat.lt_or_gt_of_ne hij with h | h
    · rcases zs_ne j hj i h with q | q
      · exact Or.inr (hs _ q)
      · exact Or.inl (hs _ q)
    · rcases zs_ne i hi j h with q | q
      · exact Or.inl (hs _ q)
      · exact Or.inr (hs _ q)) hA
  obtain ⟨cst, hcst⟩ : ∃ cst : Nat → Nat, cst = fun a => if a = 1000001 then b else if a = 1000002 then t0 else if a = 1000003 then t1 else if a = 1000004 then t2 else adK (a - zK1) := ⟨_, rfl⟩
  have ck : (fun i => cst (zK1 + i)) = adK := by
    funext i
    rw [hcst]
    unfold zK1
    simp only
    rw [if_neg (by omega), if_neg (by omega), if_neg (by omega), if_neg (by omega), show 1000100 + i - 1000100 = i by omega]
  have cB : cst 1000001 = b := by rw [hcst]; rfl
  have cT0 : cst 1000002 = t0 := by rw [hcst]; rfl
  have cT1 : cst 1000003 = t1 := by rw [hcst]; rfl
  have cT2 : cst 1000004 = t2 := by rw [hcst]; rfl
  have hKA : zKAok s.heap.size cst (zKA L xs) s := by
    intro a n f hf
    unfold zKA at hf
    split at hf
    · rename_i h; subst h; cases hf
      rw [cB]
      obtain ⟨scr, g1, g2, g3, g4, g5⟩ := hX
      exact ⟨scr, g1, g2, g3, by omega, by rw [g4], fun j hj => g5 j hj, hA b hbl⟩
    · split at hf
      · rename_i h; subst h; cases hf; rw [cT0]; exact hT0
      · split at hf
        · rename_i h; subst h; cases hf; rw [cT1]; exact hT1
        · split at hf
          · rename_i h; subst h; cases hf; rw [cT2]; exact hT2
          · cases hf
  have hKF : zKF s.heap.size cst adV (zKA L xs) s := by
    refine ⟨hKA, fun q hq => va_Nw.of rfl (hts _ (zs_t.1 q hq)), fun C hC => va_AO.of (hts _ (zs_t.2.1 C hC)), ?_, ?_, ?_, ?_, ?_⟩
    · intro i q hq
      have hi : i < 15 := (List.getElem?_eq_some_iff.mp hq).1
      have e1 : cst (zK1 + i) = adK i := congrFun ck i
      rw [e1]
      have h2 := hev i hi
      have e2 : zStr i = .string "ReedOracles$Reader" q.1 := by unfold zStr; simp [List.getD_eq_getElem?_getD, hq]
      rw [e2] at h2
      exact vk_R.of (hts _ (zs_t.2.2.1 q (List.mem_of_getElem? hq))) h2
    · intro i nm hi
      match i, hi with
      | 0, hi => cases hi; rw [show 1000002 + 0 = 1000002 from rfl, cT0]; exact va_Zof (hts _ (zs_t.2.2.2.1 _ (by decide))) (hts _ zs_t.2.2.2.2.2.2.1) ht0 hA
      | 1, hi => cases hi; rw [show 1000002 + 1 = 1000003 from rfl, cT1]; exact va_Zof (hts _ (zs_t.2.2.2.1 _ (by decide))) (hts _ zs_t.2.2.2.2.2.2.1) ht1 hA
      | 2, hi => cases hi; rw [show 1000002 + 2 = 1000004 from rfl, cT2]; exact va_Zof (hts _ (zs_t.2.2.2.1 _ (by decide))) (hts _ zs_t.2.2.2.2.2.2.1) ht2 hA
      | i + 3, hi => simp [zStats] at hi
    · rw [ck]; exact hSt
    · exact va_Zof (hts _ zs_t.2.2.2.2.1) (hts _ zs_t.2.2.2.2.2.2.2.1) (va_eqi (hs _ zs_cs)) hA
    · exact va_Zqof (hts _ zs_t.2.2.2.2.2.1) (hts _ zs_t.2.2.2.2.2.2.2.2) (hs _ zs_si) hA
  have hAb : zAb s.heap.size cst tys (zKA L xs) (zh0 L xs) [] := by
    refine ⟨rfl, Nat.zero_le _, (fun k q h => by simp at h), (fun k a x h => by cases h), (fun k a x h => by cases h), ?_, ?_, (fun a C n f h => by cases h), (fun a C h => by cases h)⟩
    · intro a t n f ha h
      have h : (zKA L xs a).map (fun q => (0, q.1, q.2)) = some (t, n, f) := h
      unfold zKA at h
      unfold zK0 at ha
      rw [if_neg (by omega), if_neg (by omega), if_neg (by omega), if_neg (by omega)] at h
      cases h
    · intro a t n f ha h
      have h : (zKA L xs a).map (fun q => (0, q.1, q.2)) = some (t, n, f) := h
      cases hk : zKA L xs a with
      | none => rw [hk] at h; cases h
      | some q => rw [hk] at h; cases h; exact ⟨rfl, rfl⟩
  obtain ⟨hf, hp1, hp2, hp3⟩ := pure_law L xs hL
  exact zlaw (M := 323) (q := (13, 4, true, in_323)) (mt := mt_323) hTys zgoods (zsok l _ cst adV (dC, dI) tys (zKA L xs)) rfl rfl rfl ⟨hx, hb, hml, hown, fun w hw => hts w (zT_sub w hw), hlocks, hr, Or.inl rfl, hK, hKF, Nat.le_refl _, rfl, rfl⟩ rfl cB hp1 hAb rfl rfl hp2 hp3
set_option maxHeartbeats 4000000 in
theorem lw_walk (l : Launch) (hflags : l.flags = flags0) (b : Addr) (xs : List Int32) : MetFree l x (headSpec (Jvm.Cond.code x code maxLocals ret :: tables_1) room_1) (lw_P b xs) (fun _ _ _ _ _ => True) lw_Q := by
  refine MetFree.of_bodyS (code := code) (maxLocals := maxLocals) (ret := ret) (by decide) ?_ ?_
  · intro args s m h hn
    obtain ⟨meth, c, h1, h2, h3, h4, h5, h6, -, -⟩ := Cond.code_spec hn (atoms_spec (ws := Jvm.Cond.code x code maxLocals ret :: tables_1) h _ List.mem_cons_self)
    exact ⟨meth, c, h1, h2, h3, h4, h5, h6⟩
  · intro p e s m args below meth c s₁ B hml0 hP _
    obtain ⟨rfl, hx, hbd, hgv⟩ := hP
    obtain ⟨scr, harrAt, hlist, hof, hsmall⟩ := hx
    obtain ⟨hcb, hkn, -, -⟩ := State.arrayAt?_spec harrAt
    have hown : s.vm.findClass R_law = some m.cls := findClass_of_methodNamed B.named
    have hts0 : ∀ c ∈ (Jvm.Cond.code x code maxLocals ret :: tables_1), c.before #[Value.ref b] s = true := atoms_spec (ws := Jvm.Cond.code x code maxLocals ret :: tables_1) B.pre
    have hts : ∀ w ∈ lw_tbl, w.before #[Value.ref b] s = true := k2_hts_sels lw_privs (fun w hw => hts0 w (List.mem_cons_of_mem _ hw)) lw_privs_ok
    have hml : c.maxLocals = 4 := B.maxLocals_eq (hts0 _ List.mem_cons_self)
    have X₀ : Stand p l e room_1 s m #[Value.ref b] below meth c s₁ [] 0 0 := Stand.of_body B
    have hh0 : s₁.heap = s.heap := by rw [B.state]; rfl
    have hsz : scr.slots.size = xs.length := by rw [← Array.length_toList, hlist, List.length_map]
    have hval : ∀ j : Nat, j < xs.length → scr.slots[j]? = some (.int (xs.getD j 0)) := fun j hj => by
      rw [← Array.getElem?_toList, hlist]
      simp [hj]
    have hbl : b < s.heap.size := (Array.getElem?_eq_some_iff.mp hcb).1
    have hX : va_X b xs.length (fun j => xs.getD j 0) s s.heap := ⟨scr, hcb, hof, hkn, hsz, hval⟩
    have K : W p l e room_1 s m #[Value.ref b] below meth c s₁.heap [] 0 0 (lw_Z below #[Value.ref b] s) (entryFrame m ([Value.ref b] : List Value).toArray 4) := by
      rw [hh0]
      exact whole_start l hflags hbd ⟨B.exec, B.bytes, B.returns, hml, hown, hts, hX, hbl, B.notSynchronized, hgv⟩
    obtain ⟨t, a1, o, b1, b2, b3⟩ := K s₁ rfl X₀
    exact ⟨t, o, a1, b1, b2, b3⟩
theorem lw_pre_spec {args : Array Value} {s : State} (h : (Jvm.Cond.and given_1 narrow_1).before args s = true) (hr : rest_1_c.before args s = true) : ∃ (b : Addr) (xs : List Int32), lw_P b xs args s := by
  have hs := flat_of_before _ h
  have hq := flat_of_before _ hr
  have hc : (Cond.count 1).before args s = true := hs _ (by decide +kernel)
  have harr : (Cond.arrayOf (.arg 0) .int).before args s = true := hs _ (by decide +kernel)
  have hle : (Cond.le (.length (.arg 0)) (.int 3584)).before args s = true := hs _ (by decide +kernel)
  have hlen : (Cond.isInt (.length (.arg 0))).before args s = true := hq _ (by decide +kernel)
  have hall : (Cond.all (.arg 0) (.isInt (.elem (.arg 0) (.index 0)))).before args s = true := hq _ (by decide +kernel)
  obtain ⟨b, xs, hb, hx⟩ := State.ints_of_pre rfl harr hlen hall
  have hsm : xs.length < 2 ^ 31 := hx.choose_spec.2.2.2
  have hev : (Term.length (.arg 0)).eval args s none [] s = some (.int xs.length.toInt32) := hx.length_eval hb
  have hv := Cond.le_ints hev (show (Term.int 3584).eval args s none [] s = some (.int 3584) from rfl)
  have hd : xs.length.toInt32 ≤ 3584 := by
    simpa [Cond.before, Cond.holds, hv] using hle
  have hN : xs.length ≤ 3584 := (Int32.ofNat_le_ofNat hsm (by decide)).mp (show Int32.ofNat xs.length ≤ Int32.ofNat 3584 from hd)
  exact ⟨b, xs, Cond.one_arg hc (show args[0]? = some (.ref b) from hb), hx, hN, h⟩
theorem lw_comes (l : Launch) (hflags : l.flags = flags0) : Comes l x (Jvm.Cond.code x code maxLocals ret :: tables_1) room_1 (fun tb e args s => Calls_1 tb e args s ∧ rest_1 tb e args s ∧ Pre_1 tb e args s)
    (fun _ _ args s o t => lw_Q args s o t) := by
  intro p e ha hc hk s m args below hf hfit hheap happ hpre
  obtain ⟨b, xs, hP⟩ := lw_pre_spec hpre.2.2 hpre.2.1
  obtain ⟨k, o, h1, h2, h3, hQ⟩ := lw_walk l hflags b xs p e ha hc hk s m args below hf ((Spec.applies_iff_loose hf).mp happ).1 hP trivial
  exact ⟨k, o, h1, h2, h3, hQ⟩
theorem lw_frame {s t : State} {o : Outcome} {args : Array Value} (h : Framed s o t [] 600000 7302250) :
    Framed s o t (fieldLocs frame_1_writes args s ++ arrayLocs frame_1_arrays args s ++ staticLocs frame_1_statics s) 600000 7302250 := h
theorem lw_limb (L : Cond) (hL : ∀ (args : Array Value) (s t : State), L.after args s (.returned (some (.int 1))) t = true) :
    ArmFor flags0 classFile x code maxLocals ret World_1 tables_1 room_1 Calls_1 rest_1 Pre_1
      (fun tb e a s o t => postC L tb e a s o t ∧ Framed s o t (fieldLocs frame_1_writes a s ++ arrayLocs frame_1_arrays a s ++ staticLocs frame_1_statics s) 600000 7302250) := by
  intro l hflags _ _ p e ha hc hk s m args below hf hfit hheap happ hpre
  obtain ⟨k, o, h1, h2, h3, rfl, hF⟩ := lw_comes l hflags p e ha hc hk s m args below hf hfit hheap happ hpre
  exact ⟨k, _, h1, h2, h3, hL args s _, lw_frame hF⟩
theorem i_vc : Claimed_1_1 ∧ Claimed_1_2 := ⟨lw_limb limb_1_1 (fun args s t => by simp [limb_1_1, Cond.after, Cond.holds, Cond.value]), lw_limb limb_1_2 (fun args s t => Cond.after_iff.mpr (by
  first | (rw [show limb_1_2 = Cond.eq .result (.int 1) from rfl, Cond.eq_ints (x := 1) (y := 1) rfl rfl]; simp; done) | (simp [limb_1_2, Cond.value, Term.eval]; done)))⟩
