/-! what a run makes is never less -/
def zle (h h' : zHeap) : Prop := hN h ≤ hN h' ∧ hS h ≤ hS h'
theorem zle.rf {h : zHeap} : zle h h := ⟨Nat.le_refl _, Nat.le_refl _⟩
theorem zle.tr {a b c : zHeap} (h1 : zle a b) (h2 : zle b c) : zle a c := ⟨Nat.le_trans h1.1 h2.1, Nat.le_trans h1.2 h2.2⟩
def zGr (s : zSem) : Prop := ∀ (nx : zNxt) (go : Nat → zNxt) (cl : zCal) (ls : zLoc) (st : zStk) (h : zHeap) (r : zRes), (∀ ls st h r, nx ls st h = some r → zle h r.2) → (∀ t ls st h r, go t ls st h = some r → zle h r.2) → (∀ m as h r, cl m as h = some r → zle h r.2) → s nx go cl ls st h = some r → zle h r.2
theorem zGr_P (f : zPur) : zGr (sP f) := by
  intro nx go cl ls st h r h1 h2 h3 hr
  unfold sP at hr
  split at hr
  · exact h1 _ _ _ _ hr
  · cases hr
theorem zGr_RI (g : zRdI) : zGr (sRI g) := by
  intro nx go cl ls st h r h1 h2 h3 hr
  unfold sRI at hr
  split at hr
  · rename_i q _
    cases hq : q.1 with
    | none => rw [hq] at hr; cases hr
    | some x => rw [hq] at hr; exact h1 _ _ _ _ hr
  · cases hr
theorem zGr_RR (g : zStk → zHeap → Option (Option (Option Nat) × zStk)) : zGr (sRR g) := by
  intro nx go cl ls st h r h1 h2 h3 hr
  unfold sRR at hr
  split at hr
  · rename_i q _
    cases hq : q.1 with
    | none => rw [hq] at hr; cases hr
    | some x => rw [hq] at hr; exact h1 _ _ _ _ hr
  · cases hr
theorem zGr_Wr (g : zWrt) (hg : ∀ st h q h', g st h = some q → q.1 = some h' → zle h h') : zGr (sWr g) := by
  intro nx go cl ls st h r h1 h2 h3 hr
  unfold sWr at hr
  split at hr
  · rename_i q hq0
    cases hq : q.1 with
    | none => rw [hq] at hr; cases hr
    | some x => rw [hq] at hr; exact (hg _ _ _ _ hq0 hq).tr (h1 _ _ _ _ hr)
  · cases hr
theorem zGr_Br (c : zStk → Option (Bool × zStk)) (t : Nat) : zGr (sBr c t) := by
  intro nx go cl ls st h r h1 h2 h3 hr
  unfold sBr at hr
  split at hr
  · rename_i q _
    cases hq : q.1 with
    | true => rw [hq] at hr; exact h2 _ _ _ _ _ hr
    | false => rw [hq] at hr; exact h1 _ _ _ _ hr
  · cases hr
theorem zGr_Go (t : Nat) : zGr (sGo t) := fun _ _ _ _ _ _ _ _ h2 _ hr => h2 _ _ _ _ _ hr
theorem zGr_Sw (ts : List (Int × Nat)) (d : Nat) : zGr (sSw ts d) := by
  intro nx go cl ls st h r h1 h2 h3 hr
  unfold sSw at hr
  split at hr
  · rw [zsw_t] at hr; exact h2 _ _ _ _ _ hr
  · cases hr
theorem zok_some {C : Option Nat} {as : List zVal} {h : zHeap} {k : Option zRes} {r : zRes} (hr : zok C as h k = some r) : k = some r := by
  unfold zok at hr
  split at hr
  · exact hr
  · split at hr
    · split at hr
      · exact hr
      · cases hr
    · cases hr
theorem zGr_CI (m n : Nat) (C : Option Nat) (w : Nat) : zGr (sCI m n C w) := by
  intro nx go cl ls st h r h1 h2 h3 hr
  unfold sCI at hr
  split at hr
  · rename_i q _
    cases hb : (Nat.ble (zcs q.2) 8 && Nat.ble (zcs q.1) w) with
    | false => rw [hb] at hr; cases hr
    | true =>
      rw [hb] at hr
      have hr : zbI _ _ = some r := hr
      unfold zbI at hr
      split at hr
      · rename_i hc
        exact (h3 _ _ _ _ (zok_some hc)).tr (h1 _ _ _ _ hr)
      · cases hr
  · cases hr
theorem zGr_CL (m n : Nat) (C : Option Nat) (w : Nat) : zGr (sCL m n C w) := by
  intro nx go cl ls st h r h1 h2 h3 hr
  unfold sCL at hr
  split at hr
  · rename_i q _
    cases hb : (Nat.ble (zcs q.2) 8 && Nat.ble (zcs q.1) w) with
    | false => rw [hb] at hr; cases hr
    | true =>
      rw [hb] at hr
      have hr : zbL _ _ = some r := hr
      unfold zbL at hr
      split at hr
      · rename_i hc
        exact (h3 _ _ _ _ (zok_some hc)).tr (h1 _ _ _ _ hr)
      · cases hr
  · cases hr
theorem zGr_CR (m n : Nat) (C : Option Nat) (w : Nat) : zGr (sCR m n C w) := by
  intro nx go cl ls st h r h1 h2 h3 hr
  unfold sCR at hr
  split at hr
  · rename_i q _
    cases hb : (Nat.ble (zcs q.2) 8 && Nat.ble (zcs q.1) w) with
    | false => rw [hb] at hr; cases hr
    | true =>
      rw [hb] at hr
      have hr : zbR _ _ = some r := hr
      unfold zbR at hr
      split at hr
      · rename_i hc
        exact (h3 _ _ _ _ (zok_some hc)).tr (h1 _ _ _ _ hr)
      · cases hr
  · cases hr
theorem zGr_CV (m n : Nat) (C : Option Nat) (w : Nat) : zGr (sCV m n C w) := by
  intro nx go cl ls st h r h1 h2 h3 hr
  unfold sCV at hr
  split at hr
  · rename_i q _
    cases hb : (Nat.ble (zcs q.2) 8 && Nat.ble (zcs q.1) w) with
    | false => rw [hb] at hr; cases hr
    | true =>
      rw [hb] at hr
      have hr : zbV _ _ = some r := hr
      unfold zbV at hr
      split at hr
      · rename_i hc
        exact (h3 _ _ _ _ (zok_some hc)).tr (h1 _ _ _ _ hr)
      · cases hr
  · cases hr
theorem zGr_Nw (tb : List (List Nat)) (C : Nat) : zGr (sNw (nO tb C)) := by
  intro nx go cl ls st h r h1 h2 h3 hr
  have h9 : zle h (znO tb C h) := ⟨Nat.le_succ _, Nat.le_add_right _ _⟩
  exact h9.tr (h1 _ _ _ _ hr)
theorem zGr_NA (g : Nat → zHeap → zHeap) (hg : ∀ n h, zle h (g n h)) : zGr (sNA g) := by
  intro nx go cl ls st h r h1 h2 h3 hr
  unfold sNA at hr
  split at hr
  · rename_i n s0
    cases hl : zlen n with
    | none => rw [hl] at hr; cases hr
    | some k => rw [hl] at hr; exact (hg k h).tr (h1 _ _ _ _ hr)
  · cases hr
theorem zGr_DL (f : Int64 → Int64 → Int64) : zGr (sDL f) := by
  intro nx go cl ls st h r h1 h2 h3 hr
  unfold sDL at hr
  split at hr
  · rename_i y x s0
    by_cases hy : y = 0
    · rw [if_pos hy] at hr; cases hr
    · rw [if_neg hy] at hr; exact h1 _ _ _ _ hr
  · cases hr
theorem zGr_Ret (f : zStk → Option zVal) : zGr (sRet f) := by
  intro nx go cl ls st h r h1 h2 h3 hr
  unfold sRet at hr
  split at hr
  · obtain rfl := Option.some.inj hr
    exact zle.rf
  · cases hr
theorem zGr_Rz : zGr sRz := by
  intro nx go cl ls st h r h1 h2 h3 hr
  unfold sRz zrz at hr
  split at hr
  · split at hr
    · obtain rfl := Option.some.inj hr
      exact zle.rf
    · cases hr
  · cases hr
theorem zle_pI {h h' : zHeap} {r : Option Nat} {k : Nat} {x : Int32} (e : zpI h r k x = some h') : zle h h' := by
  unfold zpI at e
  split at e
  · split at e
    · obtain rfl := Option.some.inj e
      exact zle.rf
    · cases e
  · cases e
theorem zle_wFI (k : Nat) : ∀ st h q h', wFI k st h = some q → q.1 = some h' → zle h h' := by
  intro st h q h' e1 e2
  unfold wFI at e1
  split at e1
  · obtain rfl := Option.some.inj e1
    exact zle_pI e2
  · cases e1
theorem zle_wFZ (k : Nat) : ∀ st h q h', wFZ k st h = some q → q.1 = some h' → zle h h' := by
  intro st h q h' e1 e2
  unfold wFZ at e1
  split at e1
  · obtain rfl := Option.some.inj e1
    have e2 : zpZ _ _ _ _ = some h' := e2
    unfold zpZ at e2
    split at e2
    · exact zle_pI e2
    · cases e2
  · cases e1
theorem zle_wFR (k : Nat) : ∀ st h q h', wFR k st h = some q → q.1 = some h' → zle h h' := by
  intro st h q h' e1 e2
  unfold wFR at e1
  split at e1
  · obtain rfl := Option.some.inj e1
    have e2 : zpR _ _ _ _ = some h' := e2
    unfold zpR at e2
    split at e2
    · split at e2
      · obtain rfl := Option.some.inj e2
        exact zle.rf
      · cases e2
    · cases e2
  · cases e1
theorem zle_wAI : ∀ st h q h', wAI st h = some q → q.1 = some h' → zle h h' := by
  intro st h q h' e1 e2
  unfold wAI at e1
  split at e1
  · obtain rfl := Option.some.inj e1
    have e2 : zaS _ _ _ _ = some h' := e2
    unfold zaS at e2
    split at e2
    · split at e2
      · split at e2
        · obtain rfl := Option.some.inj e2
          exact zle.rf
        · cases e2
      · cases e2
    · cases e2
  · cases e1
theorem zle_wAB : ∀ st h q h', wAB st h = some q → q.1 = some h' → zle h h' := by
  intro st h q h' e1 e2
  unfold wAB at e1
  split at e1
  · obtain rfl := Option.some.inj e1
    have e2 : zaC _ _ _ _ = some h' := e2
    unfold zaC at e2
    split at e2
    · split at e2
      · split at e2
        · obtain rfl := Option.some.inj e2
          exact zle.rf
        · cases e2
      · cases e2
    · cases e2
  · cases e1
theorem zle_wAR : ∀ st h q h', wAR st h = some q → q.1 = some h' → zle h h' := by
  intro st h q h' e1 e2
  unfold wAR at e1
  split at e1
  · obtain rfl := Option.some.inj e1
    have e2 : zaT _ _ _ _ = some h' := e2
    unfold zaT at e2
    split at e2
    · split at e2
      · split at e2
        · split at e2
          · obtain rfl := Option.some.inj e2
            exact zle.rf
          · cases e2
        · cases e2
      · cases e2
    · cases e2
  · cases e1
theorem zk8_some {α : Type} {r : zStk} {v : Option α} {x : α} (h : zk8 r v = some x) : zcs r ≤ 8 ∧ v = some x := by
  unfold zk8 at h
  split at h
  · rename_i hb
    exact ⟨Nat.le_of_ble_eq_true hb, h⟩
  · cases h
theorem zle_wCp : ∀ st h q h', wCp st h = some q → q.1 = some h' → zle h h' := by
  intro st h q h' e1 e2
  unfold wCp at e1
  split at e1
  · obtain rfl := Option.some.inj (zk8_some e1).2
    have e2 : zaY _ _ _ _ _ _ = some h' := e2
    unfold zaY at e2
    split at e2
    · split at e2
      · split at e2
        · obtain rfl := Option.some.inj e2
          exact zle.rf
        · cases e2
      · cases e2
    · cases e2
  · cases e1
theorem zGr_call {e : zPE} {s : zSem} (h : zsCall e = some s) : zGr s := by
  unfold zsCall at h
  split at h <;> first | (cases h; done) | (obtain rfl := Option.some.inj h; first | exact zGr_CV _ _ _ _ | exact zGr_CI _ _ _ _ | exact zGr_CL _ _ _ _ | exact zGr_CR _ _ _ _ | exact zGr_Wr _ zle_wCp | exact zGr_P _ | exact zGr_RI _)
theorem zle_nA (t : Nat) : ∀ n h, zle h (znA t n h) := fun _ _ => ⟨Nat.le_succ _, Nat.le_add_right _ _⟩
theorem zle_nQ (t : Nat) : ∀ n h, zle h (znQ t n h) := fun _ _ => ⟨Nat.le_succ _, Nat.le_add_right _ _⟩
theorem zGr_sem {tb : List (List Nat)} {pl : Nat → Option zPE} {tg : Int → Nat} {rz : Bool} {ins : Instr} {s : zSem} (h : zsem tb pl tg rz ins = some s) : zGr s := by
  unfold zsem at h
  split at h <;> first
    | (cases h; done)
    | (obtain rfl := Option.some.inj h; first | exact zGr_P _ | exact zGr_RI _ | exact zGr_Wr _ zle_wAI | exact zGr_Wr _ zle_wAB | exact zGr_Wr _ zle_wAR | exact zGr_Br _ _ | exact zGr_RR _ | exact zGr_Go _ | exact zGr_Sw _ _ | exact zGr_NA _ (zle_nA _) | exact zGr_DL _ | exact zGr_Ret _)
    | (split at h <;> first
        | (cases h; done)
        | exact zGr_call h
        | (obtain rfl := Option.some.inj h; first | exact zGr_P _ | exact zGr_RI _ | exact zGr_Wr _ (zle_wFI _) | exact zGr_Wr _ (zle_wFZ _) | exact zGr_Wr _ (zle_wFR _) | exact zGr_RR _ | exact zGr_NA _ (zle_nQ _) | exact zGr_Nw _ _ | exact zGr_Ret _ | exact zGr_Rz))
theorem zP_Gr : ∀ M i s, zP M i = some s → zGr s := by
  intro M i s h
  unfold zP at h
  split at h
  · split at h
    · exact zGr_sem h
    · cases h
  · cases h
theorem zrF_gr : ∀ n M i ls st h r, zrF zP zNL n M i ls st h = some r → zle h r.2 := by
  intro n
  induction n with
  | zero => intro M i ls st h r hr; cases hr
  | succ n ih =>
    intro M i ls st h r hr
    rw [zrF] at hr
    cases hs : zP M i with
    | none => rw [hs] at hr; cases hr
    | some s =>
      rw [hs] at hr
      exact zP_Gr M i s hs _ _ _ _ _ _ _ (fun ls st h r => ih _ _ _ _ _ _) (fun t ls st h r => ih _ _ _ _ _ _) (fun m as h r => ih _ _ _ _ _ _) hr
