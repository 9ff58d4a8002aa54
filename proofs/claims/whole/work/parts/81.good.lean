/-! that the program's data are as the tables and the bytes have them: checks by computing -/
def zck1b (ins : Instr) : Bool := match ins with
  | .bipush n => decide ((Int8.ofInt n).toInt32 = i32 n)
  | .sipush n => decide ((Int16.ofInt n).toInt32 = i32 n)
  | .tableswitch _ lo hi offs => decide ((offs.size : Int) = hi - lo + 1) && decide (-2147483648 ≤ lo) && decide (hi < 2147483648)
  | .lookupswitch _ ps => (ps.toList.zip (ps.toList.drop 1)).all (fun (a, next) => a.1 < next.1) && ps.toList.all (fun q => decide (-2147483648 ≤ q.1) && decide (q.1 < 2147483648))
  | _ => true
theorem zck1b_ok {ins : Instr} (h : zck1b ins = true) : zck1 ins := by
  cases ins with
  | bipush n => exact (of_decide_eq_true (p := (Int8.ofInt n).toInt32 = i32 n) h)
  | sipush n => exact (of_decide_eq_true (p := (Int16.ofInt n).toInt32 = i32 n) h)
  | tableswitch d lo hi offs =>
    have h : (decide ((offs.size : Int) = hi - lo + 1) && decide (-2147483648 ≤ lo) && decide (hi < 2147483648)) = true := h
    simp only [Bool.and_eq_true, decide_eq_true_eq] at h
    exact ⟨h.1.1, h.1.2, h.2⟩
  | lookupswitch d ps =>
    have h : ((ps.toList.zip (ps.toList.drop 1)).all (fun (a, next) => a.1 < next.1) && ps.toList.all (fun q => decide (-2147483648 ≤ q.1) && decide (q.1 < 2147483648))) = true := h
    rw [Bool.and_eq_true] at h
    refine ⟨h.1, fun q hq => ?_⟩
    have := List.all_eq_true.mp h.2 q hq
    simp only [Bool.and_eq_true, decide_eq_true_eq] at this
    exact this
  | _ => exact trivial
def zlenb (ins : Instr) (len : Nat) : Bool := match zlen1 ins with
  | some n => Nat.beq len n
  | none => true
def zoffb (ins : Instr) (pc : Nat) : Bool := match zoff ins with
  | some off => decide (0 ≤ (pc : Int) + off)
  | none => true
def zroom (m : Nat) (mt : zMt) : Bool := match zMetas[m]? with
  | some t => decide (t.2.2.2.1 + 1 ≤ mt.2.2.2.1) && decide (8 + (zNL m + 11) + t.2.2.2.2 ≤ mt.2.2.2.2)
  | none => true
def zinit (m : Nat) : Bool := match zMetas[m]? with
  | some t => decide (t.1.name = "<init>")
  | none => true
def znini (m : Nat) : Bool := match zMetas[m]? with
  | some t => decide (t.1.name ≠ "<init>")
  | none => true
theorem zroom_ok {m : Nat} {mt t : zMt} (h : zroom m mt = true) (ht : zMetas[m]? = some t) : t.2.2.2.1 + 1 ≤ mt.2.2.2.1 ∧ 8 + (zNL m + 11) + t.2.2.2.2 ≤ mt.2.2.2.2 := by
  unfold zroom at h
  rw [ht] at h
  simpa using h
/-- which fields are final -/
def zfin (tb : List (List Bool)) (k : Nat) : Bool := ((tb[k / 64]?).bind (fun r => r[k % 64]?)).getD false
/-- what a pool's entry must be, of its class and of putfield too -/
def zE2 (tb : List (List Bool)) (own : String) (oi idx : Nat) (e : zPE) : Prop := zEok own idx e ∧ ∀ mn : String, match e with
  | (0, k, _) => (zfin tb k = true → mn = "<init>" ∧ k / 64 = oi) → zPok own idx k 0 mn
  | (1, k, _) => (zfin tb k = true → mn = "<init>" ∧ k / 64 = oi) → zPok own idx k 1 mn
  | (2, k, _) => (zfin tb k = true → mn = "<init>" ∧ k / 64 = oi) → zPok own idx k 2 mn
  | _ => True
def zck2b (tb : List (List Bool)) (pl : List (Nat × zPE)) (oi : Nat) (mt : zMt) (rz : Bool) (ins : Instr) : Bool := match ins with
  | .putfield idx => match zlk pl idx with
    | some (kd, k, _) => Nat.ble kd 2 && (!(zfin tb k) || (decide (mt.1.name = "<init>") && Nat.beq (k / 64) oi))
    | none => true
  | .invokestatic idx => match zlk pl idx with
    | some (3, m, _, _, c, _) => Nat.beq c 0 && zroom m mt
    | some (k, _) => !(Nat.beq k 9) && !(Nat.beq k 13) && !(Nat.beq k 14)
    | none => true
  | .invokevirtual idx => match zlk pl idx with
    | some (3, m, _, _, c, _) => !(Nat.beq c 0) && znini m && zroom m mt
    | some (k, _) => (Nat.beq k 13 || Nat.beq k 14) && decide (6 ≤ mt.2.2.2.1) && decide (200 ≤ mt.2.2.2.2)
    | none => true
  | .invokespecial idx => match zlk pl idx with
    | some (3, m, _, r, c, _) => !(Nat.beq c 0) && Nat.beq r 0 && zinit m && zroom m mt
    | some (k, _) => Nat.beq k 9
    | none => true
  | .anewarray idx => match zlk pl idx with
    | some (4, C, _) => decide (C ∈ [2, 3, 9, 10]) && (match vwCl[C]? with | some r => decide (r.1 ∈ zAOs) | none => true)
    | _ => true
  | .ireturn => if rz = true then decide (mt.2.2.1 = some .boolean) else decide (mt.2.2.1 = some .int)
  | .lreturn => decide (mt.2.2.1 = some .long)
  | .areturn => match mt.2.2.1 with
    | some (.object _) => true
    | some (.array _) => true
    | _ => false
  | .return_ => decide (mt.2.2.1 = none)
  | _ => true
theorem zck2b_ok {tb : List (List Bool)} {pl : List (Nat × zPE)} {own : String} {oi : Nat} {mt : zMt} {rz : Bool} {ins : Instr} (hpl : ∀ idx e, zlk pl idx = some e → zE2 tb own oi idx e) (h : zck2b tb pl oi mt rz ins = true) : zck2 pl own mt rz ins := by
  cases ins with
  | putfield idx =>
    intro kd k x hx
    have h : (match zlk pl idx with | some (kd, k, _) => Nat.ble kd 2 && (!(zfin tb k) || (decide (mt.1.name = "<init>") && Nat.beq (k / 64) oi)) | none => true) = true := h
    rw [hx] at h
    simp only [Bool.and_eq_true, Bool.or_eq_true, Bool.not_eq_true', decide_eq_true_eq] at h
    have hk : kd ≤ 2 := Nat.le_of_ble_eq_true h.1
    have hfin : zfin tb k = true → mt.1.name = "<init>" ∧ k / 64 = oi := fun hf => by
      rcases h.2 with h2 | h2
      · rw [hf] at h2; cases h2
      · exact ⟨h2.1, Nat.eq_of_beq_eq_true h2.2⟩
    have hE := (hpl idx _ hx).2 mt.1.name
    rcases (show kd = 0 ∨ kd = 1 ∨ kd = 2 by omega) with rfl | rfl | rfl
    · exact hE hfin
    · exact hE hfin
    · exact hE hfin
  | invokestatic idx =>
    intro e he
    unfold zck2b at h
    dsimp only at h
    rw [he] at h
    split at h
    · rename_i m n r c v heq
      obtain rfl := Option.some.inj heq
      simp only [Bool.and_eq_true] at h
      refine ⟨fun m' n' r' c' v' hh => ?_, (fun z => nomatch z), (fun z => nomatch z), (fun z => nomatch z)⟩
      cases hh
      exact ⟨Nat.eq_of_beq_eq_true h.1, fun t ht => zroom_ok h.2 ht⟩
    · rename_i k x hne heq
      obtain rfl := Option.some.inj heq
      simp only [Bool.and_eq_true, Bool.not_eq_true'] at h
      refine ⟨fun m' n' r' c' v' hh => by cases hh; exact (hne _ _ _ _ _ rfl rfl).elim, fun z => ?_, fun z => ?_, fun z => ?_⟩
      · obtain rfl : k = 9 := z
        exact absurd h.1.1 (by decide)
      · obtain rfl : k = 13 := z
        exact absurd h.1.2 (by decide)
      · obtain rfl : k = 14 := z
        exact absurd h.2 (by decide)
    · cases ‹some e = none›
  | invokevirtual idx =>
    intro e he
    unfold zck2b at h
    dsimp only at h
    rw [he] at h
    split at h
    · rename_i m n r c v heq
      obtain rfl := Option.some.inj heq
      simp only [Bool.and_eq_true, Bool.not_eq_true'] at h
      refine ⟨fun m' n' r' c' v' hh => ?_, Or.inl rfl⟩
      cases hh
      refine ⟨fun z => by subst z; exact absurd h.1.1 (by decide), fun t ht => ⟨?_, zroom_ok h.2 ht⟩⟩
      have h3 := h.1.2
      unfold znini at h3
      rw [ht] at h3
      simpa using h3
    · rename_i k x hne heq
      obtain rfl := Option.some.inj heq
      simp only [Bool.and_eq_true, Bool.or_eq_true, decide_eq_true_eq] at h
      refine ⟨fun m' n' r' c' v' hh => by cases hh; exact (hne _ _ _ _ _ rfl rfl).elim, Or.inr ⟨?_, h.1.2, h.2⟩⟩
      rcases h.1.1 with z | z
      · exact Or.inl (Nat.eq_of_beq_eq_true z)
      · exact Or.inr (Nat.eq_of_beq_eq_true z)
    · cases ‹some e = none›
  | invokespecial idx =>
    intro e he
    unfold zck2b at h
    dsimp only at h
    rw [he] at h
    split at h
    · rename_i m n r c v heq
      obtain rfl := Option.some.inj heq
      simp only [Bool.and_eq_true, Bool.not_eq_true'] at h
      refine ⟨fun m' n' r' c' v' hh => ?_, Or.inl rfl⟩
      cases hh
      refine ⟨fun z => by subst z; exact absurd h.1.1.1 (by decide), Nat.eq_of_beq_eq_true h.1.1.2, fun t ht => ⟨?_, zroom_ok h.2 ht⟩⟩
      have h3 := h.1.2
      unfold zinit at h3
      rw [ht] at h3
      simpa using h3
    · rename_i k x hne heq
      obtain rfl := Option.some.inj heq
      refine ⟨fun m' n' r' c' v' hh => by cases hh; exact (hne _ _ _ _ _ rfl rfl).elim, Or.inr (Nat.eq_of_beq_eq_true h)⟩
    · cases ‹some e = none›
  | anewarray idx =>
    intro C x hx
    unfold zck2b at h
    dsimp only at h
    rw [hx] at h
    simp only [Bool.and_eq_true, decide_eq_true_eq] at h
    refine ⟨h.1, fun r hr => ?_⟩
    have h2 := h.2
    rw [hr] at h2
    simpa using h2
  | ireturn =>
    show if rz = true then mt.2.2.1 = some .boolean else mt.2.2.1 = some .int
    have h : (if rz = true then decide (mt.2.2.1 = some .boolean) else decide (mt.2.2.1 = some .int)) = true := h
    cases rz with
    | true => simpa using h
    | false => simpa using h
  | lreturn => exact (of_decide_eq_true (p := mt.2.2.1 = some .long) h)
  | areturn =>
    unfold zck2b at h
    dsimp only at h
    split at h
    · rename_i n hh
      exact ⟨_, hh, Or.inl ⟨n, rfl⟩⟩
    · rename_i n hh
      exact ⟨_, hh, Or.inr ⟨n, rfl⟩⟩
    · cases h
  | return_ => exact (of_decide_eq_true (p := mt.2.2.1 = none) h)
  | _ => exact trivial
def zci (tb : List (List Bool)) (pl : List (Nat × zPE)) (oi : Nat) (mt : zMt) (rz : Bool) (x : zIns) : Bool :=
  zck1b x.2.1 && zlenb x.2.1 x.2.2 && zoffb x.2.1 x.1 && zck2b tb pl oi mt rz x.2.1
def zchain : List zIns → Bool
  | [] => true
  | x :: r => (match r with | [] => true | y :: _ => Nat.beq y.1 (x.1 + x.2.2)) && zchain r
theorem zchain_ok : ∀ (is : List zIns) (i : Nat) (x y : zIns), zchain is = true → is[i]? = some x → is[i + 1]? = some y → y.1 = x.1 + x.2.2
  | [], i, x, y, _, h, _ => by simp at h
  | a :: r, 0, x, y, hc, h1, h2 => by
    simp only [List.getElem?_cons_zero] at h1
    obtain rfl := Option.some.inj h1
    simp only [Nat.zero_add, List.getElem?_cons_succ] at h2
    cases r with
    | nil => simp at h2
    | cons b r =>
      simp only [List.getElem?_cons_zero] at h2
      obtain rfl := Option.some.inj h2
      unfold zchain at hc
      rw [Bool.and_eq_true] at hc
      exact Nat.eq_of_beq_eq_true hc.1
  | a :: r, i + 1, x, y, hc, h1, h2 => by
    simp only [List.getElem?_cons_succ] at h1 h2
    unfold zchain at hc
    rw [Bool.and_eq_true] at hc
    exact zchain_ok r i x y hc.2 h1 h2
theorem zGd_of {tb : List (List Bool)} {M : Nat} {q : zMq} {mt : zMt} {pl : List (Nat × zPE)} (hpl0 : zPls[q.1]? = some pl) (hpl : ∀ idx e, zlk pl idx = some e → zE2 tb mt.1.cls q.1 idx e) (h0 : ∀ x ∈ q.2.2.2, zdk mt.2.1 x = true) (h1 : ∀ x ∈ q.2.2.2, zci tb pl q.1 mt q.2.2.1 x = true) (h2 : zchain q.2.2.2 = true) (h3 : (match q.2.2.2 with | [] => true | x :: _ => Nat.beq x.1 0) = true) (h4 : (decide (1 ≤ mt.2.2.2.1) && decide (45 ≤ mt.2.2.2.2)) = true) (h5 : Cond.arrayClass .int ∈ zT ∧ Cond.arrayClass .byte ∈ zT ∧ Cond.arrayClass .boolean ∈ zT) : zGd M q mt := by
  refine ⟨?_, ?_, ?_, ?_, h5⟩
  · intro i pc ins len hi
    have hx := h1 _ (List.mem_of_getElem? hi)
    unfold zci at hx
    simp only [Bool.and_eq_true] at hx
    have hdk : zdk mt.2.1 (pc, ins, len) = true := h0 _ (List.mem_of_getElem? hi)
    unfold zdk at hdk
    have hdk := of_decide_eq_true hdk
    refine ⟨hdk, zck1b_ok hx.1.1.1, fun n hn => ?_, fun pc' ins' len' hi' => zchain_ok _ i _ _ h2 hi hi', fun off ho => ?_, ?_⟩
    · have := hx.1.1.2
      unfold zlenb at this
      rw [hn] at this
      exact Nat.eq_of_beq_eq_true this
    · have := hx.1.2
      unfold zoffb at this
      rw [ho] at this
      exact of_decide_eq_true this
    · rw [hpl0]
      exact zck2b_ok hpl hx.2
  · intro pc ins len h0
    cases hq : q.2.2.2 with
    | nil => rw [hq] at h0; simp at h0
    | cons x r =>
      rw [hq] at h0 h3
      simp only [List.getElem?_cons_zero] at h0
      obtain rfl := Option.some.inj h0
      exact Nat.eq_of_beq_eq_true h3
  · intro idx e he
    rw [hpl0] at he
    exact (hpl idx e he).1
  · simpa using h4
theorem zlk_mem : ∀ (pl : List (Nat × zPE)) (idx : Nat) (e : zPE), zlk pl idx = some e → (idx, e) ∈ pl
  | [], idx, e, h => by unfold zlk at h; cases h
  | q :: r, idx, e, h => by
    unfold zlk at h
    split at h
    · rename_i hb
      obtain rfl := Option.some.inj h
      obtain rfl := Nat.eq_of_beq_eq_true hb
      exact List.mem_cons_self
    · exact List.mem_cons_of_mem _ (zlk_mem r idx e h)
