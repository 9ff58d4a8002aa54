/-! limits -/
def zLim {α : Type} (F : Nat → Option α) (x : Option α) : Prop := (∀ n m r, n ≤ m → F n = some r → F m = some r) ∧ ∀ r, x = some r ↔ ∃ n, F n = some r
theorem zLim.const {α : Type} (x : Option α) : zLim (fun _ => x) x := ⟨fun _ _ _ _ h => h, fun r => ⟨fun h => ⟨0, h⟩, fun ⟨_, h⟩ => h⟩⟩
theorem zLim.uniq {α : Type} {F : Nat → Option α} {x y : Option α} (h1 : zLim F x) (h2 : zLim F y) : x = y := by
  cases hx : x with
  | some r => exact ((h2.2 r).mpr ((h1.2 r).mp hx)).symm
  | none =>
    cases hy : y with
    | none => rfl
    | some r => rw [(h1.2 r).mpr ((h2.2 r).mp hy)] at hx; cases hx
theorem zLim.shift {α : Type} {F : Nat → Option α} {x : Option α} (h : zLim F x) : zLim (fun n => F (n + 1)) x :=
  ⟨fun n m r hnm hn => h.1 _ _ r (by omega) hn, fun r => ⟨fun hx => by obtain ⟨n, hn⟩ := (h.2 r).mp hx; exact ⟨n, h.1 n (n + 1) r (by omega) hn⟩, fun ⟨n, hn⟩ => (h.2 r).mpr ⟨n + 1, hn⟩⟩⟩
theorem zLim.bd {α β : Type} {F : Nat → Option α} {x : Option α} {K : Nat → α → Option β} {k : α → Option β} (h : zLim F x) (hk : ∀ a, zLim (fun n => K n a) (k a)) : zLim (fun n => (F n).bind (K n)) (x.bind k) := by
  refine ⟨fun n m r hnm hn => ?_, fun r => ⟨fun hx => ?_, fun ⟨n, hn⟩ => ?_⟩⟩
  · have hn : (F n).bind (K n) = some r := hn
    cases hF : F n with
    | none => rw [hF] at hn; cases hn
    | some a =>
      rw [hF] at hn
      show (F m).bind (K m) = some r
      rw [h.1 n m a hnm hF]
      exact (hk a).1 n m r hnm hn
  · cases hF : x with
    | none => rw [hF] at hx; cases hx
    | some a =>
      rw [hF] at hx
      obtain ⟨n1, h1⟩ := (h.2 a).mp hF
      obtain ⟨n2, h2⟩ := ((hk a).2 r).mp hx
      refine ⟨max n1 n2, ?_⟩
      show (F (max n1 n2)).bind (K (max n1 n2)) = some r
      rw [h.1 n1 _ a (by omega) h1]
      exact (hk a).1 n2 _ r (by omega) h2
  · have hn : (F n).bind (K n) = some r := hn
    cases hF : F n with
    | none => rw [hF] at hn; cases hn
    | some a =>
      rw [hF] at hn
      rw [(h.2 a).mpr ⟨n, hF⟩]
      exact ((hk a).2 r).mpr ⟨n, hn⟩
def zC (s : zSem) : Prop := ∀ (Nx : Nat → zNxt) (Go : Nat → Nat → zNxt) (Cl : Nat → zCal) (nx : zNxt) (go : Nat → zNxt) (cl : zCal), (∀ ls st h, zLim (fun n => Nx n ls st h) (nx ls st h)) → (∀ t ls st h, zLim (fun n => Go n t ls st h) (go t ls st h)) → (∀ m as h, zLim (fun n => Cl n m as h) (cl m as h)) → ∀ ls st h, zLim (fun n => s (Nx n) (Go n) (Cl n) ls st h) (s nx go cl ls st h)
theorem zC_P (f : zPur) : zC (sP f) := by
  intro Nx Go Cl nx go cl h1 h2 h3 ls st h
  unfold sP
  cases f ls st with
  | none => exact zLim.const _
  | some q => exact h1 _ _ _
theorem zC_RI (g : zRdI) : zC (sRI g) := by
  intro Nx Go Cl nx go cl h1 h2 h3 ls st h
  unfold sRI
  cases g st h with
  | none => exact zLim.const _
  | some q =>
    obtain ⟨o, st'⟩ := q
    cases o with
    | none => exact zLim.const _
    | some x => exact h1 _ _ _
theorem zC_RR (g : zStk → zHeap → Option (Option (Option Nat) × zStk)) : zC (sRR g) := by
  intro Nx Go Cl nx go cl h1 h2 h3 ls st h
  unfold sRR
  cases g st h with
  | none => exact zLim.const _
  | some q =>
    obtain ⟨o, st'⟩ := q
    cases o with
    | none => exact zLim.const _
    | some x => exact h1 _ _ _
theorem zC_Wr (g : zWrt) : zC (sWr g) := by
  intro Nx Go Cl nx go cl h1 h2 h3 ls st h
  unfold sWr
  cases g st h with
  | none => exact zLim.const _
  | some q =>
    obtain ⟨o, st'⟩ := q
    cases o with
    | none => exact zLim.const _
    | some x => exact h1 _ _ _
theorem zC_Br (c : zStk → Option (Bool × zStk)) (t : Nat) : zC (sBr c t) := by
  intro Nx Go Cl nx go cl h1 h2 h3 ls st h
  unfold sBr
  cases c st with
  | none => exact zLim.const _
  | some q =>
    obtain ⟨o, st'⟩ := q
    cases o with
    | false => exact h1 _ _ _
    | true => exact h2 _ _ _ _
theorem zC_Go (t : Nat) : zC (sGo t) := fun _ _ _ _ _ _ _ h2 _ ls st h => h2 t ls st h
theorem zsw_lim {x : Int32} {K : Nat → Nat → Option zRes} {k : Nat → Option zRes} (hk : ∀ t, zLim (fun n => K n t) (k t)) (d : Nat) : ∀ ts : List (Int × Nat), zLim (fun n => zsw x ts (K n) d) (zsw x ts k d)
  | [] => hk d
  | q :: r => by
    unfold zsw
    cases decide (x = i32 q.1) with
    | true => exact hk q.2
    | false => exact zsw_lim hk d r
theorem zC_Sw (ts : List (Int × Nat)) (d : Nat) : zC (sSw ts d) := by
  intro Nx Go Cl nx go cl h1 h2 h3 ls st h
  unfold sSw
  split
  · exact zsw_lim (fun t => h2 t _ _ _) d ts
  · exact zLim.const _
theorem zbI_bd (o : Option zRes) (k : Int32 → zHeap → Option zRes) : zbI o k = o.bind (fun r => match r.1 with | .inl x => k x r.2 | _ => none) := by
  unfold zbI
  rcases o with _ | ⟨x | y | r, h⟩ <;> rfl
theorem zbL_bd (o : Option zRes) (k : Int64 → zHeap → Option zRes) : zbL o k = o.bind (fun r => match r.1 with | .inr (.inl x) => k x r.2 | _ => none) := by
  unfold zbL
  rcases o with _ | ⟨x | y | r, h⟩ <;> rfl
theorem zbR_bd (o : Option zRes) (k : Option Nat → zHeap → Option zRes) : zbR o k = o.bind (fun r => match r.1 with | .inr (.inr x) => k x r.2 | _ => none) := by
  unfold zbR
  rcases o with _ | ⟨x | y | r, h⟩ <;> rfl
theorem zbV_bd (o : Option zRes) (k : zHeap → Option zRes) : zbV o k = o.bind (fun r => k r.2) := by
  unfold zbV
  rcases o with _ | ⟨x | y | r, h⟩ <;> rfl
theorem zok_lim {C : Option Nat} {as : List zVal} {h : zHeap} {F : Nat → Option zRes} {x : Option zRes} (hF : zLim F x) : zLim (fun n => zok C as h (F n)) (zok C as h x) := by
  unfold zok
  split
  · exact hF
  · split
    · split
      · exact hF
      · exact zLim.const _
    · exact zLim.const _
theorem zC_CI (m n : Nat) (C : Option Nat) (w : Nat) : zC (sCI m n C w) := by
  intro Nx Go Cl nx go cl h1 h2 h3 ls st h
  unfold sCI
  cases ztk n st [] with
  | none => exact zLim.const _
  | some q =>
    dsimp only
    cases (Nat.ble (zcs q.2) 8 && Nat.ble (zcs q.1) w) with
    | false => exact zLim.const _
    | true =>
      show zLim (fun n => zbI _ _) (zbI _ _)
      simp only [zbI_bd]
      refine zLim.bd (zok_lim (h3 _ _ _)) (fun a => ?_)
      rcases a with ⟨x | y | r, h'⟩
      · exact h1 _ _ _
      · exact zLim.const _
      · exact zLim.const _
theorem zC_CL (m n : Nat) (C : Option Nat) (w : Nat) : zC (sCL m n C w) := by
  intro Nx Go Cl nx go cl h1 h2 h3 ls st h
  unfold sCL
  cases ztk n st [] with
  | none => exact zLim.const _
  | some q =>
    dsimp only
    cases (Nat.ble (zcs q.2) 8 && Nat.ble (zcs q.1) w) with
    | false => exact zLim.const _
    | true =>
      show zLim (fun n => zbL _ _) (zbL _ _)
      simp only [zbL_bd]
      refine zLim.bd (zok_lim (h3 _ _ _)) (fun a => ?_)
      rcases a with ⟨x | y | r, h'⟩
      · exact zLim.const _
      · exact h1 _ _ _
      · exact zLim.const _
theorem zC_CR (m n : Nat) (C : Option Nat) (w : Nat) : zC (sCR m n C w) := by
  intro Nx Go Cl nx go cl h1 h2 h3 ls st h
  unfold sCR
  cases ztk n st [] with
  | none => exact zLim.const _
  | some q =>
    dsimp only
    cases (Nat.ble (zcs q.2) 8 && Nat.ble (zcs q.1) w) with
    | false => exact zLim.const _
    | true =>
      show zLim (fun n => zbR _ _) (zbR _ _)
      simp only [zbR_bd]
      refine zLim.bd (zok_lim (h3 _ _ _)) (fun a => ?_)
      rcases a with ⟨x | y | r, h'⟩
      · exact zLim.const _
      · exact zLim.const _
      · exact h1 _ _ _
theorem zC_CV (m n : Nat) (C : Option Nat) (w : Nat) : zC (sCV m n C w) := by
  intro Nx Go Cl nx go cl h1 h2 h3 ls st h
  unfold sCV
  cases ztk n st [] with
  | none => exact zLim.const _
  | some q =>
    dsimp only
    cases (Nat.ble (zcs q.2) 8 && Nat.ble (zcs q.1) w) with
    | false => exact zLim.const _
    | true =>
      show zLim (fun n => zbV _ _) (zbV _ _)
      simp only [zbV_bd]
      refine zLim.bd (zok_lim (h3 _ _ _)) (fun a => ?_)
      exact h1 _ _ _
theorem zC_Nw (g : zNew) : zC (sNw g) := by
  intro Nx Go Cl nx go cl h1 h2 h3 ls st h
  unfold sNw
  cases g st h with
  | none => exact zLim.const _
  | some q => exact h1 _ _ _
theorem zC_NA (g : Nat → zHeap → zHeap) : zC (sNA g) := by
  intro Nx Go Cl nx go cl h1 h2 h3 ls st h
  unfold sNA
  split
  · rename_i n r
    cases zlen n with
    | none => exact zLim.const _
    | some k => exact h1 _ _ _
  · exact zLim.const _
theorem zC_DL (f : Int64 → Int64 → Int64) : zC (sDL f) := by
  intro Nx Go Cl nx go cl h1 h2 h3 ls st h
  unfold sDL
  split
  · rename_i y x r
    by_cases hy : y = 0
    · simp only [hy, if_true]; exact zLim.const _
    · simp only [hy, if_false]; exact h1 _ _ _
  · exact zLim.const _
theorem zC_Ret (f : zStk → Option zVal) : zC (sRet f) := fun _ _ _ _ _ _ _ _ _ ls st h => zLim.const _
theorem zC_Rz : zC sRz := fun _ _ _ _ _ _ _ _ _ ls st h => zLim.const _
theorem zC_call {e : zPE} {s : zSem} (h : zsCall e = some s) : zC s := by
  unfold zsCall at h
  split at h <;> first | (cases h; done) | (obtain rfl := Option.some.inj h; first | exact zC_CV _ _ _ _ | exact zC_CI _ _ _ _ | exact zC_CL _ _ _ _ | exact zC_CR _ _ _ _ | exact zC_Wr _ | exact zC_P _ | exact zC_RI _)
theorem zC_sem {tb : List (List Nat)} {pl : Nat → Option zPE} {tg : Int → Nat} {rz : Bool} {ins : Instr} {s : zSem} (h : zsem tb pl tg rz ins = some s) : zC s := by
  unfold zsem at h
  split at h <;> first
    | (cases h; done)
    | (obtain rfl := Option.some.inj h; first | exact zC_P _ | exact zC_RI _ | exact zC_Wr _ | exact zC_Br _ _ | exact zC_RR _ | exact zC_Go _ | exact zC_Sw _ _ | exact zC_NA _ | exact zC_DL _ | exact zC_Ret _)
    | (split at h <;> first
        | (cases h; done)
        | exact zC_call h
        | (obtain rfl := Option.some.inj h; first | exact zC_P _ | exact zC_RI _ | exact zC_Wr _ | exact zC_RR _ | exact zC_NA _ | exact zC_Nw _ | exact zC_Ret _ | exact zC_Rz))
/-! running -/
def zsl : List zVal → zLoc
  | [] => []
  | .inr (.inl x) :: r => some (.inr (.inl x)) :: none :: zsl r
  | .inl x :: r => some (.inl x) :: zsl r
  | .inr (.inr x) :: r => some (.inr (.inr x)) :: zsl r
def zen (nL : Nat) (as : List zVal) : zLoc := zsl as ++ List.replicate (nL - (zsl as).length) none
def zrF (P : Nat → Nat → Option zSem) (NL : Nat → Nat) : Nat → Nat → Nat → zNxt
  | 0, _, _, _, _, _ => none
  | n + 1, M, i, ls, st, h => match P M i with
    | some s => s (zrF P NL n M (i + 1)) (zrF P NL n M) (fun m as h => zrF P NL n m 0 (zen (NL m) as) [] h) ls st h
    | none => none
noncomputable def zrG (P : Nat → Nat → Option zSem) (NL : Nat → Nat) (M i : Nat) (ls : zLoc) (st : zStk) (h : zHeap) : Option zRes :=
  haveI := Classical.propDecidable (∃ n r, zrF P NL n M i ls st h = some r)
  if hh : ∃ n r, zrF P NL n M i ls st h = some r then zrF P NL hh.choose M i ls st h else none
theorem zrF_mono {P : Nat → Nat → Option zSem} {NL : Nat → Nat} (hP : ∀ M i s, P M i = some s → zC s) : ∀ n M i ls st h r, zrF P NL n M i ls st h = some r → zrF P NL (n + 1) M i ls st h = some r := by
  intro n
  induction n with
  | zero => intro M i ls st h r hr; cases hr
  | succ n ih =>
    intro M i ls st h r hr
    have key : ∀ M i ls st h, zLim (fun k => if k = 0 then zrF P NL n M i ls st h else zrF P NL (n + 1) M i ls st h) (zrF P NL (n + 1) M i ls st h) := by
      intro M i ls st h
      refine ⟨fun a b r hab ha => ?_, fun r => ⟨fun hx => ⟨1, by simpa using hx⟩, fun ⟨a, ha⟩ => ?_⟩⟩
      · by_cases h0 : a = 0
        · by_cases h1 : b = 0
          · simpa [h0, h1] using ha
          · simp only [h1, if_false]
            exact ih M i ls st h r (by simpa [h0] using ha)
        · have h1 : b ≠ 0 := by omega
          simp only [h1, h0, if_false] at ha ⊢
          exact ha
      · by_cases h0 : a = 0
        · exact ih M i ls st h r (by simpa [h0] using ha)
        · simpa [h0] using ha
    rw [zrF] at hr ⊢
    cases hs : P M i with
    | none => rw [hs] at hr; cases hr
    | some s =>
      rw [hs] at hr
      dsimp only at hr ⊢
      have hL := hP M i s hs (fun k ls st h => if k = 0 then zrF P NL n M (i + 1) ls st h else zrF P NL (n + 1) M (i + 1) ls st h) (fun k t ls st h => if k = 0 then zrF P NL n M t ls st h else zrF P NL (n + 1) M t ls st h) (fun k m as h => if k = 0 then zrF P NL n m 0 (zen (NL m) as) [] h else zrF P NL (n + 1) m 0 (zen (NL m) as) [] h) (zrF P NL (n + 1) M (i + 1)) (zrF P NL (n + 1) M) (fun m as h => zrF P NL (n + 1) m 0 (zen (NL m) as) [] h) (fun ls st h => key _ _ _ _ _) (fun t ls st h => key _ _ _ _ _) (fun m as h => key _ _ _ _ _) ls st h
      exact (hL.2 r).mpr ⟨0, by simpa using hr⟩
theorem zrF_le {P : Nat → Nat → Option zSem} {NL : Nat → Nat} (hP : ∀ M i s, P M i = some s → zC s) {n m : Nat} (hnm : n ≤ m) {M i : Nat} {ls : zLoc} {st : zStk} {h : zHeap} {r : zRes} (hr : zrF P NL n M i ls st h = some r) : zrF P NL m M i ls st h = some r := by
  induction hnm with
  | refl => exact hr
  | step _ ih => exact zrF_mono hP _ _ _ _ _ _ _ ih
theorem zrG_lim {P : Nat → Nat → Option zSem} {NL : Nat → Nat} (hP : ∀ M i s, P M i = some s → zC s) (M i : Nat) (ls : zLoc) (st : zStk) (h : zHeap) : zLim (fun n => zrF P NL n M i ls st h) (zrG P NL M i ls st h) := by
  refine ⟨fun n m r hnm hn => zrF_le hP hnm hn, fun r => ?_⟩
  unfold zrG
  by_cases hh : ∃ n r, zrF P NL n M i ls st h = some r
  · rw [dif_pos hh]
    refine ⟨fun hx => ⟨_, hx⟩, fun ⟨n, hn⟩ => ?_⟩
    obtain ⟨r', hr'⟩ := hh.choose_spec
    have h1 := zrF_le hP (Nat.le_max_left n hh.choose) hn
    have h2 := zrF_le hP (Nat.le_max_right n hh.choose) hr'
    rw [h1] at h2
    rw [hr', ← Option.some.inj h2]
  · rw [dif_neg hh]
    exact ⟨(fun hx => nomatch hx), fun hn => absurd (hn.elim fun n hn => ⟨n, r, hn⟩) hh⟩
theorem zrG_eq {P : Nat → Nat → Option zSem} {NL : Nat → Nat} (hP : ∀ M i s, P M i = some s → zC s) (M i : Nat) (ls : zLoc) (st : zStk) (h : zHeap) :
    zrG P NL M i ls st h = match P M i with
      | some s => s (zrG P NL M (i + 1)) (zrG P NL M) (fun m as h => zrG P NL m 0 (zen (NL m) as) [] h) ls st h
      | none => none := by
  refine zLim.uniq (zrG_lim hP M i ls st h).shift ?_
  show zLim (fun n => zrF P NL (n + 1) M i ls st h) _
  simp only [zrF]
  cases hs : P M i with
  | none => exact zLim.const _
  | some s => exact hP M i s hs _ _ _ _ _ _ (fun ls st h => zrG_lim hP _ _ _ _ _) (fun t ls st h => zrG_lim hP _ _ _ _ _) (fun m as h => zrG_lim hP _ _ _ _ _) ls st h
/-! unfolding to the next stops -/
def zU (cd : List zSem) (run : Nat → zNxt) (cl : zCal) (stop : Nat → Bool) : Nat → Nat → zNxt
  | 0, i, ls, st, h => run i ls st h
  | n + 1, i, ls, st, h => match cd[i]? with
    | some s => s (fun ls st h => match stop (i + 1) with
        | true => run (i + 1) ls st h
        | false => zU cd run cl stop n (i + 1) ls st h) (fun t ls st h => match stop t with
        | true => run t ls st h
        | false => zU cd run cl stop n t ls st h) cl ls st h
    | none => none
theorem zU_eq {P : Nat → Nat → Option zSem} {NL : Nat → Nat} (hP : ∀ M i s, P M i = some s → zC s) {M : Nat} {cd : List zSem} (hcd : ∀ i, P M i = cd[i]?) (stop : Nat → Bool) : ∀ n i ls st h, zrG P NL M i ls st h = zU cd (zrG P NL M) (fun m as h => zrG P NL m 0 (zen (NL m) as) [] h) stop n i ls st h := by
  intro n
  induction n with
  | zero => intro i ls st h; rfl
  | succ n ih =>
    intro i ls st h
    rw [zrG_eq hP, hcd, zU]
    cases cd[i]? with
    | none => rfl
    | some s =>
      dsimp only
      have e1 : zrG P NL M (i + 1) = fun ls st h => match stop (i + 1) with
        | true => zrG P NL M (i + 1) ls st h
        | false => zU cd (zrG P NL M) (fun m as h => zrG P NL m 0 (zen (NL m) as) [] h) stop n (i + 1) ls st h := by
        funext ls st h
        cases stop (i + 1) with
        | true => rfl
        | false => exact ih _ _ _ _
      have e2 : zrG P NL M = fun t ls st h => match stop t with
        | true => zrG P NL M t ls st h
        | false => zU cd (zrG P NL M) (fun m as h => zrG P NL m 0 (zen (NL m) as) [] h) stop n t ls st h := by
        funext t ls st h
        cases stop t with
        | true => rfl
        | false => exact ih _ _ _ _
      rw [← e1, ← e2]
