/-! switches -/
theorem zswt_table {x : Int32} {lo : Int} {tg : Int → Nat} {d : Nat} : ∀ (os : List Int) (j : Nat), -2147483648 ≤ lo + j → lo + j + os.length ≤ 2147483648 →
    zswt x ((os.zipIdx j).map (fun q => (lo + (q.2 : Int), tg q.1))) d = (match (if lo + j ≤ x.toInt then os[(x.toInt - lo - j).toNat]? else none) with | some o => tg o | none => d)
  | [], j, _, _ => by
    simp only [List.zipIdx_nil, List.map_nil, zswt]
    by_cases h : lo + j ≤ x.toInt <;> simp [h]
  | o :: os, j, h1, h2 => by
    simp only [List.zipIdx_cons, List.map_cons, zswt]
    simp only [List.length_cons] at h2
    have hx := ztoInt (x := x) (v := lo + j) h1 (by omega)
    by_cases hc : x = i32 (lo + j)
    · rw [if_pos hc]
      have hv := hx.mp hc
      rw [if_pos (by omega), show (x.toInt - lo - j).toNat = 0 by omega]
      rfl
    · rw [if_neg hc, zswt_table os (j + 1) (by omega) (by omega)]
      have hv : x.toInt ≠ lo + j := fun q => hc (hx.mpr q)
      by_cases hge : lo + j ≤ x.toInt
      · rw [if_pos hge, if_pos (by omega), show (x.toInt - lo - j).toNat = (x.toInt - lo - (j + 1 : Nat)).toNat + 1 by omega, List.getElem?_cons_succ]
      · rw [if_neg hge, if_neg (by omega)]
theorem zswt_look {x : Int32} {tg : Int → Nat} {dflt : Int} : ∀ (ps : List (Int × Int)), (∀ q ∈ ps, -2147483648 ≤ q.1 ∧ q.1 < 2147483648) → zswt x (ps.map (fun q => (q.1, tg q.2))) (tg dflt) = tg (Op.lookupswitch.offset ps dflt x.toInt)
  | [], _ => rfl
  | q :: ps, h => by
    have h0 := h q List.mem_cons_self
    have ih := zswt_look (x := x) (tg := tg) (dflt := dflt) ps (fun q hq => h q (List.mem_cons_of_mem _ hq))
    have hx := ztoInt (x := x) (v := q.1) h0.1 h0.2
    simp only [List.map_cons, zswt, ih]
    by_cases hc : x = i32 q.1
    · rw [if_pos hc]
      have hv := hx.mp hc
      simp [Op.lookupswitch.offset, hv]
    · rw [if_neg hc]
      have hv : ¬ x.toInt = q.1 := fun z => hc (hx.mpr z)
      have hv2 : ¬ q.1 = x.toInt := fun z => hv z.symm
      simp [Op.lookupswitch.offset, hv2, List.find?_cons]
section ZR6
variable {p : Program} {l : Launch} {e : Env} {R : Room} {s : State} {m : MethodId} {args : Array Value} {below : List Frame} {meth : Method} {c : Code} {H : Heap} {locs : List Loc} {cells slots : Nat} {Q : State → Prop}
variable {cc : ByteArray} {pc : Nat} {base : Nat} {cst : Nat → Nat} {ls ls' : zLoc} {st st' : zStk} {nL : Nat}
theorem zr_table (hx : p.tables.exec = Jvm.exec) (hb : c.code = cc) {dflt lo hi : Int} {offs : Array Int} {len : Nat} (hd : decode cc pc = .ok (.tableswitch dflt lo hi offs, len)) (h1 : (offs.size : Int) = hi - lo + 1) (h2 : -2147483648 ≤ lo) (h3 : hi < 2147483648) {tg : Int → Nat} {x : Int32}
    (k : ∀ off : Int, zswt x (offs.toList.zipIdx.map (fun q => (lo + (q.2 : Int), tg q.1))) (tg dflt) = tg off → ∃ tgt : Nat, (pc : Int) + off = (tgt : Int) ∧ zWW p l e R s m args below meth c H locs cells slots Q base cst nL tgt ls st) : zWW p l e R s m args below meth c H locs cells slots Q base cst nL pc ls (.inl x :: st) := by
  intro L hL
  have hlen : (offs.toList.length : Int) = hi - lo + 1 := by rw [Array.length_toList]; exact h1
  have key := zswt_table (x := x) (tg := tg) (d := tg dflt) (lo := lo) offs.toList 0 (by simpa using h2) (by simp; omega)
  by_cases hin : x.toInt < lo ∨ hi < x.toInt
  · obtain ⟨tgt, g1, g2⟩ := k dflt (by
      rw [key]
      by_cases hl : lo + (0 : Nat) ≤ x.toInt
      · rw [if_pos hl, List.getElem?_eq_none (by omega)]
      · rw [if_neg hl])
    exact lv_tableOut hx hb hd hin g1 (g2 L hL)
  · have hlt : (x.toInt - lo).toNat < offs.toList.length := by omega
    obtain ⟨tgt, g1, g2⟩ := k (offs.toList[(x.toInt - lo).toNat]) (by
      rw [key, if_pos (by omega), show (x.toInt - lo - (0 : Nat)).toNat = (x.toInt - lo).toNat by simp, List.getElem?_eq_getElem hlt])
    exact lv_tableIn hx hb hd (by omega) (by omega) (by rw [← Array.getElem?_toList, List.getElem?_eq_getElem hlt]) g1 (g2 L hL)
theorem zr_look (hx : p.tables.exec = Jvm.exec) (hb : c.code = cc) {dflt : Int} {ps : Array (Int × Int)} {len : Nat} (hd : decode cc pc = .ok (.lookupswitch dflt ps, len)) (h1 : (ps.toList.zip (ps.toList.drop 1)).all (fun (a, next) => a.1 < next.1) = true) (h2 : ∀ q ∈ ps.toList, -2147483648 ≤ q.1 ∧ q.1 < 2147483648) {tg : Int → Nat} {x : Int32}
    (k : ∀ off : Int, zswt x (ps.toList.map (fun q => (q.1, tg q.2))) (tg dflt) = tg off → ∃ tgt : Nat, (pc : Int) + off = (tgt : Int) ∧ zWW p l e R s m args below meth c H locs cells slots Q base cst nL tgt ls st) : zWW p l e R s m args below meth c H locs cells slots Q base cst nL pc ls (.inl x :: st) := by
  intro L hL
  obtain ⟨tgt, g1, g2⟩ := k _ (zswt_look ps.toList h2)
  exact lv_lookup hx hb hd h1 rfl g1 (g2 L hL)
end ZR6
