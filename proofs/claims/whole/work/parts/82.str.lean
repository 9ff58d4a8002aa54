/-! the JDK's own methods on the constant texts -/
def zJQ (v : Option Value) : Array Value → State → Outcome → State → Prop := fun _ st o t => o = .returned v ∧ t.heap = st.heap
def zKS (base : Nat) (cst adV : Nat → Nat) (U : State) : Prop := vk_S 15 (zTx.map List.length) (zTx.map (fun t => t.map i32)) (fun i => cst (zK1 + i)) adV (zA base) U U.heap ∧ va_Z "java/lang/String" "COMPACT_STRINGS" "Z" (.int 1) (zA base) U U.heap ∧ va_Zq "jdk/internal/util/Preconditions" "SIOOBE_FORMATTER" "Ljava/util/function/BiFunction;" (zA base) U U.heap
theorem zKS.moved {base : Nat} {cst adV : Nat → Nat} {s U : State} (hW : s.vm.Alike U.vm) (hq : ∀ a : Nat, a < s.heap.size → ¬ zA base a → U.heap[a]? = s.heap[a]?) (h : zKS base cst adV s) : zKS base cst adV U := ⟨vk_S.moved hW (h.1.kept hq), va_Z.moved hW (h.2.1.kept hq), va_Zq.moved hW (h.2.2.kept hq)⟩
theorem zKSb {base : Nat} {cst adV : Nat → Nat} {av : List Value} : FrameBlind (va_Pc av (zKS base cst adV)) := by
  intro a U g mk hp
  exact ⟨hp.1, hp.2.moved (s := U) (U := U.calling g mk a) (Vm.Alike.refl U.vm) (fun _ _ _ => rfl)⟩
theorem zKSp {base : Nat} {cst adV : Nat → Nat} {s : State} {H : Heap} {locs : List Loc} (h : zKS base cst adV s) (hV : va_S (zA base) s.heap H locs) (av : List Value) : ∀ U : State, U.heap = H → s.WarmedH U.vm → va_Pc av (zKS base cst adV) av.toArray U :=
  fun U hU hW => ⟨rfl, h.moved hW.alike (fun a g1 g2 => by rw [hU]; exact hV.2.1 a g1 g2)⟩
theorem zcallJ {p : Program} {l : Launch} {e : Env} {R : Room} {s : State} {m : MethodId} {args : Array Value} {below : List Frame} {meth : Method} {c : Code} {H : Heap} {locs : List Loc} {cells slots : Nat} {Q : State → Prop} {pc : Nat} {L : Array Slot} {st0 rest : List Value} {a : Array Value} {v : Option Value}
    (hr : va_Run p l e R s m args below meth c H locs cells slots 0 0 (F0 m pc L st0) rest (zJQ v a) (fun _ => False)) (kk : W p l e R s m args below meth c H locs cells slots Q (F0 m (pc + 3) L (v.toList ++ rest))) : W p l e R s m args below meth c H locs cells slots Q (F0 m pc L st0) := by
  intro T hT X
  obtain ⟨v', st₀, t, T', L', h0, X', hL, e1, e2, ⟨hv, hh⟩, st⟩ := hr T hT X
  obtain rfl := Outcome.returned.inj hv
  have hnil : L' = [] := List.eq_nil_iff_forall_not_mem.mpr (fun q hq => hL q hq)
  subst hnil
  rw [List.append_nil] at X'
  obtain ⟨t2, a1, b1⟩ := kk T' (by rw [e1, hh, h0]) X'
  exact ⟨t2, st t2 a1, b1⟩
def jy_coder : MethodName := ⟨"java/lang/String", "coder", "()B"⟩
def jy_length : MethodName := ⟨"java/lang/String", "length", "()I"⟩
def jy_isL : MethodName := ⟨"java/lang/String", "isLatin1", "()Z"⟩
def jy_charAt : MethodName := ⟨"java/lang/String", "charAt", "(I)C"⟩
def jy_chk : MethodName := ⟨"java/lang/String", "checkIndex", "(II)V"⟩
def jy_lat : MethodName := ⟨"java/lang/StringLatin1", "charAt", "([BI)C"⟩
def jy_pre : MethodName := ⟨"jdk/internal/util/Preconditions", "checkIndex", "(IILjava/util/function/BiFunction;)I"⟩
abbrev jc_coder : ByteArray := prog_17_method_152_code
abbrev jc_length : ByteArray := prog_17_method_54_code
abbrev jc_isL : ByteArray := prog_17_method_154_code
abbrev jc_charAt : ByteArray := prog_17_method_56_code
abbrev jc_chk : ByteArray := prog_17_method_155_code
abbrev jc_lat : ByteArray := prog_18_method_2_code
abbrev jc_pre : ByteArray := prog_22_method_11_code
set_option maxRecDepth 100000 in
theorem jw_f38 : (Jvm.Cond.fieldLink "java/lang/String" (38 : Nat) "java/lang/String" "COMPACT_STRINGS" "Z") ∈ zT := zT_mem (tb3 _ (List.mem_of_getElem? (l := tables_1_3) (i := 6) rfl)) rfl
set_option maxRecDepth 100000 in
theorem jw_f15 : (Jvm.Cond.fieldLink "java/lang/String" (15 : Nat) "java/lang/String" "coder" "B") ∈ zT := zT_mem (tb8 _ (List.mem_of_getElem? (l := tables_1_8) (i := 216) rfl)) rfl
set_option maxRecDepth 100000 in
theorem jw_f9 : (Jvm.Cond.fieldLink "java/lang/String" (9 : Nat) "java/lang/String" "value" "[B") ∈ zT := zT_mem (tb8 _ (List.mem_of_getElem? (l := tables_1_8) (i := 215) rfl)) rfl
set_option maxRecDepth 100000 in
theorem jw_f1053 : (Jvm.Cond.fieldLink "java/lang/String" (1053 : Nat) "jdk/internal/util/Preconditions" "SIOOBE_FORMATTER" "Ljava/util/function/BiFunction;") ∈ zT := zT_mem (tb3 _ (List.mem_of_getElem? (l := tables_1_3) (i := 22) rfl)) rfl
set_option maxRecDepth 100000 in
theorem jw_m335 : (Jvm.Cond.methodLink "java/lang/String" (335 : Nat) ({ cls := "java/lang/String", name := "coder", desc := "()B" } : Jvm.MethodName)) ∈ zT := zT_mem (tb3 _ (List.mem_of_getElem? (l := tables_1_3) (i := 2) rfl)) rfl
set_option maxRecDepth 100000 in
theorem jw_m492 : (Jvm.Cond.methodLink "java/lang/String" (492 : Nat) ({ cls := "java/lang/String", name := "isLatin1", desc := "()Z" } : Jvm.MethodName)) ∈ zT := zT_mem (tb3 _ (List.mem_of_getElem? (l := tables_1_3) (i := 12) rfl)) rfl
set_option maxRecDepth 100000 in
theorem jw_m495 : (Jvm.Cond.methodLink "java/lang/String" (495 : Nat) ({ cls := "java/lang/StringLatin1", name := "charAt", desc := "([BI)C" } : Jvm.MethodName)) ∈ zT := zT_mem (tb3 _ (List.mem_of_getElem? (l := tables_1_3) (i := 16) rfl)) rfl
set_option maxRecDepth 100000 in
theorem jw_m1059 : (Jvm.Cond.methodLink "java/lang/String" (1059 : Nat) ({ cls := "jdk/internal/util/Preconditions", name := "checkIndex", desc := "(IILjava/util/function/BiFunction;)I" } : Jvm.MethodName)) ∈ zT := zT_mem (tb3 _ (List.mem_of_getElem? (l := tables_1_3) (i := 24) rfl)) rfl
set_option maxRecDepth 100000 in
theorem jw_m9 : (Jvm.Cond.methodLink "java/lang/StringLatin1" (9 : Nat) ({ cls := "java/lang/String", name := "checkIndex", desc := "(II)V" } : Jvm.MethodName)) ∈ zT := zT_mem (tb3 _ (List.mem_of_getElem? (l := tables_1_3) (i := 19) rfl)) rfl
set_option maxRecDepth 100000 in
theorem jw_icoder : (Jvm.Cond.instanceMethod ({ cls := "java/lang/String", name := "coder", desc := "()B" } : Jvm.MethodName)) ∈ zT := zT_mem (tb3 _ (List.mem_of_getElem? (l := tables_1_3) (i := 3) rfl)) rfl
set_option maxRecDepth 100000 in
theorem jw_scoder : (Jvm.Cond.selects "java/lang/String" ({ cls := "java/lang/String", name := "coder", desc := "()B" } : Jvm.MethodName) ({ cls := "java/lang/String", name := "coder", desc := "()B" } : Jvm.MethodName)) ∈ zT := zT_mem (tb3 _ (List.mem_of_getElem? (l := tables_1_3) (i := 4) rfl)) rfl
set_option maxRecDepth 100000 in
theorem jw_iisL : (Jvm.Cond.instanceMethod ({ cls := "java/lang/String", name := "isLatin1", desc := "()Z" } : Jvm.MethodName)) ∈ zT := zT_mem (tb3 _ (List.mem_of_getElem? (l := tables_1_3) (i := 13) rfl)) rfl
set_option maxRecDepth 100000 in
theorem jw_sisL : (Jvm.Cond.selects "java/lang/String" ({ cls := "java/lang/String", name := "isLatin1", desc := "()Z" } : Jvm.MethodName) ({ cls := "java/lang/String", name := "isLatin1", desc := "()Z" } : Jvm.MethodName)) ∈ zT := zT_mem (tb3 _ (List.mem_of_getElem? (l := tables_1_3) (i := 14) rfl)) rfl
set_option maxRecDepth 100000 in
theorem jw_ilength : (Jvm.Cond.instanceMethod ({ cls := "java/lang/String", name := "length", desc := "()I" } : Jvm.MethodName)) ∈ zT := zT_mem (tb2 _ (List.mem_of_getElem? (l := tables_1_2) (i := 239) rfl)) rfl
set_option maxRecDepth 100000 in
theorem jw_slength : (Jvm.Cond.selects "java/lang/String" ({ cls := "java/lang/String", name := "length", desc := "()I" } : Jvm.MethodName) ({ cls := "java/lang/String", name := "length", desc := "()I" } : Jvm.MethodName)) ∈ zT := zT_mem (tb3 _ (List.mem_of_getElem? (l := tables_1_3) (i := 0) rfl)) rfl
set_option maxRecDepth 100000 in
theorem jw_icharAt : (Jvm.Cond.instanceMethod ({ cls := "java/lang/String", name := "charAt", desc := "(I)C" } : Jvm.MethodName)) ∈ zT := zT_mem (tb3 _ (List.mem_of_getElem? (l := tables_1_3) (i := 9) rfl)) rfl
set_option maxRecDepth 100000 in
theorem jw_scharAt : (Jvm.Cond.selects "java/lang/String" ({ cls := "java/lang/String", name := "charAt", desc := "(I)C" } : Jvm.MethodName) ({ cls := "java/lang/String", name := "charAt", desc := "(I)C" } : Jvm.MethodName)) ∈ zT := zT_mem (tb3 _ (List.mem_of_getElem? (l := tables_1_3) (i := 10) rfl)) rfl
set_option maxRecDepth 100000 in
theorem jw_spre : (Jvm.Cond.static ({ cls := "jdk/internal/util/Preconditions", name := "checkIndex", desc := "(IILjava/util/function/BiFunction;)I" } : Jvm.MethodName)) ∈ zT := zT_mem (tb3 _ (List.mem_of_getElem? (l := tables_1_3) (i := 25) rfl)) rfl
set_option maxRecDepth 100000 in
theorem jw_schk : (Jvm.Cond.static ({ cls := "java/lang/String", name := "checkIndex", desc := "(II)V" } : Jvm.MethodName)) ∈ zT := zT_mem (tb3 _ (List.mem_of_getElem? (l := tables_1_3) (i := 20) rfl)) rfl
set_option maxRecDepth 100000 in
theorem jw_slat : (Jvm.Cond.static ({ cls := "java/lang/StringLatin1", name := "charAt", desc := "([BI)C" } : Jvm.MethodName)) ∈ zT := zT_mem (tb3 _ (List.mem_of_getElem? (l := tables_1_3) (i := 17) rfl)) rfl
set_option maxRecDepth 100000 in
theorem jw_ccoder : (Jvm.Cond.code ({ cls := "java/lang/String", name := "coder", desc := "()B" } : Jvm.MethodName) prog_17_method_152_code (1 : Nat) (Option.some Jvm.ClassFile.FieldType.byte)) ∈ zT := zT_mem (tb3 _ (List.mem_of_getElem? (l := tables_1_3) (i := 5) rfl)) rfl
set_option maxRecDepth 100000 in
theorem jw_clength : (Jvm.Cond.code ({ cls := "java/lang/String", name := "length", desc := "()I" } : Jvm.MethodName) prog_17_method_54_code (1 : Nat) (Option.some Jvm.ClassFile.FieldType.int)) ∈ zT := zT_mem (tb3 _ (List.mem_of_getElem? (l := tables_1_3) (i := 1) rfl)) rfl
set_option maxRecDepth 100000 in
theorem jw_cisL : (Jvm.Cond.code ({ cls := "java/lang/String", name := "isLatin1", desc := "()Z" } : Jvm.MethodName) prog_17_method_154_code (1 : Nat) (Option.some Jvm.ClassFile.FieldType.boolean)) ∈ zT := zT_mem (tb3 _ (List.mem_of_getElem? (l := tables_1_3) (i := 15) rfl)) rfl
set_option maxRecDepth 100000 in
theorem jw_ccharAt : (Jvm.Cond.code ({ cls := "java/lang/String", name := "charAt", desc := "(I)C" } : Jvm.MethodName) prog_17_method_56_code (2 : Nat) (Option.some Jvm.ClassFile.FieldType.char)) ∈ zT := zT_mem (tb3 _ (List.mem_of_getElem? (l := tables_1_3) (i := 11) rfl)) rfl
set_option maxRecDepth 100000 in
theorem jw_cchk : (Jvm.Cond.code ({ cls := "java/lang/String", name := "checkIndex", desc := "(II)V" } : Jvm.MethodName) prog_17_method_155_code (2 : Nat) (Option.none : Option Jvm.ClassFile.FieldType)) ∈ zT := zT_mem (tb3 _ (List.mem_of_getElem? (l := tables_1_3) (i := 21) rfl)) rfl
set_option maxRecDepth 100000 in
theorem jw_clat : (Jvm.Cond.code ({ cls := "java/lang/StringLatin1", name := "charAt", desc := "([BI)C" } : Jvm.MethodName) prog_18_method_2_code (2 : Nat) (Option.some Jvm.ClassFile.FieldType.char)) ∈ zT := zT_mem (tb3 _ (List.mem_of_getElem? (l := tables_1_3) (i := 18) rfl)) rfl
set_option maxRecDepth 100000 in
theorem jw_cpre : (Jvm.Cond.code ({ cls := "jdk/internal/util/Preconditions", name := "checkIndex", desc := "(IILjava/util/function/BiFunction;)I" } : Jvm.MethodName) prog_22_method_11_code (3 : Nat) (Option.some Jvm.ClassFile.FieldType.int)) ∈ zT := zT_mem (tb3 _ (List.mem_of_getElem? (l := tables_1_3) (i := 26) rfl)) rfl
set_option maxRecDepth 100000 in
theorem jw_inS : (Jvm.Cond.initialized "java/lang/String") ∈ zT := zT_mem (tb1 _ (List.mem_of_getElem? (l := tables_1_1) (i := 14) rfl)) rfl
set_option maxRecDepth 100000 in
theorem jw_inP : (Jvm.Cond.initialized "jdk/internal/util/Preconditions") ∈ zT := zT_mem (tb1 _ (List.mem_of_getElem? (l := tables_1_1) (i := 16) rfl)) rfl
set_option maxRecDepth 100000 in
theorem jw_inL : (Jvm.Cond.initialized "java/lang/StringLatin1") ∈ zT := zT_mem (tb1 _ (List.mem_of_getElem? (l := tables_1_1) (i := 15) rfl)) rfl
theorem jd_coder_0 : decode jc_coder 0 = .ok (.getstatic 38, 3) := by decide +kernel
theorem jd_coder_3 : decode jc_coder 3 = .ok (.ifCond .eq 10, 3) := by decide +kernel
theorem jd_coder_6 : decode jc_coder 6 = .ok (.aload_n 0, 1) := by decide +kernel
theorem jd_coder_7 : decode jc_coder 7 = .ok (.getfield 15, 3) := by decide +kernel
theorem jd_coder_10 : decode jc_coder 10 = .ok (.goto 4, 3) := by decide +kernel
theorem jd_coder_14 : decode jc_coder 14 = .ok (.ireturn, 1) := by decide +kernel
theorem jd_length_0 : decode jc_length 0 = .ok (.aload_n 0, 1) := by decide +kernel
theorem jd_length_1 : decode jc_length 1 = .ok (.getfield 9, 3) := by decide +kernel
theorem jd_length_4 : decode jc_length 4 = .ok (.arraylength, 1) := by decide +kernel
theorem jd_length_5 : decode jc_length 5 = .ok (.aload_n 0, 1) := by decide +kernel
theorem jd_length_6 : decode jc_length 6 = .ok (.invokevirtual 335, 3) := by decide +kernel
theorem jd_length_9 : decode jc_length 9 = .ok (.ishr, 1) := by decide +kernel
theorem jd_length_10 : decode jc_length 10 = .ok (.ireturn, 1) := by decide +kernel
theorem jd_isL_0 : decode jc_isL 0 = .ok (.getstatic 38, 3) := by decide +kernel
theorem jd_isL_3 : decode jc_isL 3 = .ok (.ifCond .eq 14, 3) := by decide +kernel
theorem jd_isL_6 : decode jc_isL 6 = .ok (.aload_n 0, 1) := by decide +kernel
theorem jd_isL_7 : decode jc_isL 7 = .ok (.getfield 15, 3) := by decide +kernel
theorem jd_isL_10 : decode jc_isL 10 = .ok (.ifCond .ne 7, 3) := by decide +kernel
theorem jd_isL_13 : decode jc_isL 13 = .ok (.iconst 1, 1) := by decide +kernel
theorem jd_isL_14 : decode jc_isL 14 = .ok (.goto 4, 3) := by decide +kernel
theorem jd_isL_18 : decode jc_isL 18 = .ok (.ireturn, 1) := by decide +kernel
theorem jd_charAt_0 : decode jc_charAt 0 = .ok (.aload_n 0, 1) := by decide +kernel
theorem jd_charAt_1 : decode jc_charAt 1 = .ok (.invokevirtual 492, 3) := by decide +kernel
theorem jd_charAt_4 : decode jc_charAt 4 = .ok (.ifCond .eq 12, 3) := by decide +kernel
theorem jd_charAt_7 : decode jc_charAt 7 = .ok (.aload_n 0, 1) := by decide +kernel
theorem jd_charAt_8 : decode jc_charAt 8 = .ok (.getfield 9, 3) := by decide +kernel
theorem jd_charAt_11 : decode jc_charAt 11 = .ok (.iload_n 1, 1) := by decide +kernel
theorem jd_charAt_12 : decode jc_charAt 12 = .ok (.invokestatic 495, 3) := by decide +kernel
theorem jd_charAt_15 : decode jc_charAt 15 = .ok (.ireturn, 1) := by decide +kernel
theorem jd_chk_0 : decode jc_chk 0 = .ok (.iload_n 0, 1) := by decide +kernel
theorem jd_chk_1 : decode jc_chk 1 = .ok (.iload_n 1, 1) := by decide +kernel
theorem jd_chk_2 : decode jc_chk 2 = .ok (.getstatic 1053, 3) := by decide +kernel
theorem jd_chk_5 : decode jc_chk 5 = .ok (.invokestatic 1059, 3) := by decide +kernel
theorem jd_chk_8 : decode jc_chk 8 = .ok (.pop, 1) := by decide +kernel
theorem jd_chk_9 : decode jc_chk 9 = .ok (.return_, 1) := by decide +kernel
theorem jd_lat_0 : decode jc_lat 0 = .ok (.iload_n 1, 1) := by decide +kernel
theorem jd_lat_1 : decode jc_lat 1 = .ok (.aload_n 0, 1) := by decide +kernel
theorem jd_lat_2 : decode jc_lat 2 = .ok (.arraylength, 1) := by decide +kernel
theorem jd_lat_3 : decode jc_lat 3 = .ok (.invokestatic 9, 3) := by decide +kernel
theorem jd_lat_6 : decode jc_lat 6 = .ok (.aload_n 0, 1) := by decide +kernel
theorem jd_lat_7 : decode jc_lat 7 = .ok (.iload_n 1, 1) := by decide +kernel
theorem jd_lat_8 : decode jc_lat 8 = .ok (.baload, 1) := by decide +kernel
theorem jd_lat_9 : decode jc_lat 9 = .ok (.sipush 255, 3) := by decide +kernel
theorem jd_lat_12 : decode jc_lat 12 = .ok (.iand, 1) := by decide +kernel
theorem jd_lat_13 : decode jc_lat 13 = .ok (.i2c, 1) := by decide +kernel
theorem jd_lat_14 : decode jc_lat 14 = .ok (.ireturn, 1) := by decide +kernel
theorem jd_pre_0 : decode jc_pre 0 = .ok (.iload_n 0, 1) := by decide +kernel
theorem jd_pre_1 : decode jc_pre 1 = .ok (.ifCond .lt 8, 3) := by decide +kernel
theorem jd_pre_4 : decode jc_pre 4 = .ok (.iload_n 0, 1) := by decide +kernel
theorem jd_pre_5 : decode jc_pre 5 = .ok (.iload_n 1, 1) := by decide +kernel
theorem jd_pre_6 : decode jc_pre 6 = .ok (.if_icmp .lt 10, 3) := by decide +kernel
theorem jd_pre_16 : decode jc_pre 16 = .ok (.iload_n 0, 1) := by decide +kernel
theorem jd_pre_17 : decode jc_pre 17 = .ok (.ireturn, 1) := by decide +kernel
section ZJ
variable {base : Nat} {cst adV : Nat → Nat}
theorem j_coder (l : Launch) {i : Nat} (hi : i < 15) : Met l jy_coder (Cond.code jy_coder jc_coder 1 (some .byte) :: zT) { frames := 1, cells := 0, slots := 0, locals := 20 } (va_Pc [.ref (cst (zK1 + i))] (zKS base cst adV)) (zJQ (some (.int 0))) 0 0 (fun _ => False) := by
  refine Met.ofW (cc := jc_coder) (maxL := 1) (ret := some .byte) (by decide) rfl ?_
  intro p e s m args below meth c s₁ B hml hv
  obtain ⟨rfl, hS⟩ := hv
  have hx := B.exec
  have hb := B.bytes
  have hr := B.returns
  have hts0 := atoms_spec (ws := Cond.code jy_coder jc_coder 1 (some .byte) :: zT) B.pre
  have hts : ∀ w ∈ zT, w.before _ s = true := fun w hw => hts0 w (List.mem_cons_of_mem _ hw)
  have hown : s.vm.findClass "java/lang/String" = some m.cls := findClass_of_methodNamed B.named
  have hl := lv_entry ([.ref (cst (zK1 + i))]) (n := 1) (Nat.le_of_ble_eq_true rfl)
  rw [lg_entry_eq]
  generalize (lg_sl ([.ref (cst (zK1 + i))]) ++ List.replicate (1 - (lg_sl ([.ref (cst (zK1 + i))])).length) Slot.unset).toArray = ls at hl ⊢
  have hl : lv_has ls 1 [(0, .ref (cst (zK1 + i)))] := hl
  refine va_gets hx hb hS.2.1 va_S.rf hown (hts _ jw_f38) (fun _ h => h) jd_coder_0 ?_
  refine lv_if_eq (tgt := 13) hx hb jd_coder_3 (by decide) (fun q => absurd q (by decide)) (fun _ => ?_)
  refine lv_aload_n hx hb jd_coder_6 rfl (lv_at hl 0 rfl) ?_
  refine vk_getf hx hb (hS.1.1 i hi).2.1 va_S.rf hown (hts _ jw_f15) (fun _ h => h) jd_coder_7 ?_
  refine lv_goto (tgt := 14) hx hb jd_coder_10 (by decide) ?_
  exact W.zret hx hb hr (by decide) (fun t ht hW => ⟨rfl, ht⟩) (fun q hq => absurd hq List.not_mem_nil) jd_coder_14
theorem j_isL (l : Launch) {i : Nat} (hi : i < 15) : Met l jy_isL (Cond.code jy_isL jc_isL 1 (some .boolean) :: zT) { frames := 1, cells := 0, slots := 0, locals := 20 } (va_Pc [.ref (cst (zK1 + i))] (zKS base cst adV)) (zJQ (some (.int 1))) 0 0 (fun _ => False) := by
  refine Met.ofW (cc := jc_isL) (maxL := 1) (ret := some .boolean) (by decide) rfl ?_
  intro p e s m args below meth c s₁ B hml hv
  obtain ⟨rfl, hS⟩ := hv
  have hx := B.exec
  have hb := B.bytes
  have hr := B.returns
  have hts0 := atoms_spec (ws := Cond.code jy_isL jc_isL 1 (some .boolean) :: zT) B.pre
  have hts : ∀ w ∈ zT, w.before _ s = true := fun w hw => hts0 w (List.mem_cons_of_mem _ hw)
  have hown : s.vm.findClass "java/lang/String" = some m.cls := findClass_of_methodNamed B.named
  have hl := lv_entry ([.ref (cst (zK1 + i))]) (n := 1) (Nat.le_of_ble_eq_true rfl)
  rw [lg_entry_eq]
  generalize (lg_sl ([.ref (cst (zK1 + i))]) ++ List.replicate (1 - (lg_sl ([.ref (cst (zK1 + i))])).length) Slot.unset).toArray = ls at hl ⊢
  have hl : lv_has ls 1 [(0, .ref (cst (zK1 + i)))] := hl
  refine va_gets hx hb hS.2.1 va_S.rf hown (hts _ jw_f38) (fun _ h => h) jd_isL_0 ?_
  refine lv_if_eq (tgt := 17) hx hb jd_isL_3 (by decide) (fun q => absurd q (by decide)) (fun _ => ?_)
  refine lv_aload_n hx hb jd_isL_6 rfl (lv_at hl 0 rfl) ?_
  refine vk_getf hx hb (hS.1.1 i hi).2.1 va_S.rf hown (hts _ jw_f15) (fun _ h => h) jd_isL_7 ?_
  refine lv_if_ne (tgt := 17) hx hb jd_isL_10 (by decide) (fun q => absurd rfl q) (fun _ => ?_)
  refine lv_iconst (v := 1) hx hb jd_isL_13 (by decide) ?_
  refine lv_goto (tgt := 18) hx hb jd_isL_14 (by decide) ?_
  exact W.zret hx hb hr (by decide) (fun t ht hW => ⟨rfl, ht⟩) (fun q hq => absurd hq List.not_mem_nil) jd_isL_18
theorem zsh0 : ∀ i, i < 15 → Int32.ofNat ((zTx.map List.length).getD i 0) >>> ((0 : Int32) &&& 31) = i32 ((zTx.getD i []).length) := by decide +kernel
theorem j_length (l : Launch) {i : Nat} (hi : i < 15) : Met l jy_length (Cond.code jy_length jc_length 1 (some .int) :: zT) { frames := 2, cells := 0, slots := 0, locals := 40 } (va_Pc [.ref (cst (zK1 + i))] (zKS base cst adV)) (zJQ (some (.int (i32 ((zTx.getD i []).length))))) 0 0 (fun _ => False) := by
  refine Met.ofW (cc := jc_length) (maxL := 1) (ret := some .int) (by decide) rfl ?_
  intro p e s m args below meth c s₁ B hml hv
  obtain ⟨rfl, hS⟩ := hv
  have hx := B.exec
  have hb := B.bytes
  have hr := B.returns
  have hts0 := atoms_spec (ws := Cond.code jy_length jc_length 1 (some .int) :: zT) B.pre
  have hts : ∀ w ∈ zT, w.before _ s = true := fun w hw => hts0 w (List.mem_cons_of_mem _ hw)
  have hown : s.vm.findClass "java/lang/String" = some m.cls := findClass_of_methodNamed B.named
  have hl := lv_entry ([.ref (cst (zK1 + i))]) (n := 1) (Nat.le_of_ble_eq_true rfl)
  rw [lg_entry_eq]
  generalize (lg_sl ([.ref (cst (zK1 + i))]) ++ List.replicate (1 - (lg_sl ([.ref (cst (zK1 + i))])).length) Slot.unset).toArray = ls at hl ⊢
  have hl : lv_has ls 1 [(0, .ref (cst (zK1 + i)))] := hl
  refine lv_aload_n hx hb jd_length_0 rfl (lv_at hl 0 rfl) ?_
  refine vk_getf hx hb (hS.1.1 i hi).2.2.1 va_S.rf hown (hts _ jw_f9) (fun _ h => h) jd_length_1 ?_
  obtain ⟨cell, k1, k2, k3, k4, k5, k6, k7⟩ := (hS.1.1 i hi).2.2.2
  refine W.alen hx hb k1 k2 k5 rfl rfl jd_length_4 ?_
  refine lv_aload_n hx hb jd_length_5 rfl (lv_at hl 0 rfl) ?_
  have hGd : GoodIn zT (wsV "java/lang/String" 335 "java/lang/String" jy_coder (Cond.code jy_coder jc_coder 1 (some .byte) :: zT)) := zgood (fun w hw => by
    unfold wsV at hw
    simp only [List.mem_append, List.mem_cons, List.not_mem_nil, or_false] at hw
    rcases hw with (rfl | rfl | rfl | rfl) | rfl | hw
    · exact jw_m335
    · exact jw_icoder
    · exact jw_scoder
    · exact jw_inS
    · exact jw_ccoder
    · exact hw)
  refine zcallJ (va_runV (As := []) (rest := [.int _]) ⟨hx, hb, hml, hown, hts⟩ (j_coder l hi) (cwV 0 hts hGd rfl rfl rfl (by decide +kernel) ⟨Nat.le_of_ble_eq_true rfl, Nat.le_of_ble_eq_true rfl⟩) ⟨zKSb, vk_recv hS.1 hi va_S.rf, zKSp hS va_S.rf _⟩ rfl rfl hl.1 rfl (lv_room (Nat.le_of_ble_eq_true rfl)) jd_length_6 ⟨Nat.le_of_ble_eq_true rfl, Nat.le_of_ble_eq_true rfl⟩) ?_
  refine lv_ishr hx hb jd_length_9 ?_
  rw [zsh0 i hi]
  exact W.iret hx hb hr (fun t ht hW => ⟨rfl, ht⟩) (fun q hq => absurd hq List.not_mem_nil) jd_length_10
theorem j_pre (l : Launch) {k n : Int32} {r : Option Nat} (h0 : ¬ k < 0) (h1 : k < n) : Met l jy_pre (Cond.code jy_pre jc_pre 3 (some .int) :: zT) { frames := 1, cells := 0, slots := 0, locals := 20 } (va_Pc [.int k, .int n, va_rf r] (zKS base cst adV)) (zJQ (some (.int k))) 0 0 (fun _ => False) := by
  refine Met.ofW (cc := jc_pre) (maxL := 3) (ret := some .int) (by decide) rfl ?_
  intro p e s m args below meth c s₁ B hml hv
  obtain ⟨rfl, hS⟩ := hv
  have hx := B.exec
  have hb := B.bytes
  have hr := B.returns
  have hl : lv_has ((lg_sl ([.int k, .int n, va_rf r]) ++ List.replicate (3 - (lg_sl ([.int k, .int n, va_rf r])).length) Slot.unset).toArray) 3 [(0, .int k), (1, .int n), (2, va_rf r)] := by
    cases r
    · exact lv_entry ([.int k, .int n, .null]) (n := 3) (Nat.le_of_ble_eq_true rfl)
    · rename_i a
      exact lv_entry ([.int k, .int n, .ref a]) (n := 3) (Nat.le_of_ble_eq_true rfl)
  rw [lg_entry_eq]
  generalize (lg_sl ([.int k, .int n, va_rf r]) ++ List.replicate (3 - (lg_sl ([.int k, .int n, va_rf r])).length) Slot.unset).toArray = ls at hl ⊢
  refine lv_iload_n hx hb jd_pre_0 rfl (lv_at hl 0 rfl) ?_
  refine lv_if_lt (tgt := 9) hx hb jd_pre_1 (by decide) (fun q => absurd q h0) (fun _ => ?_)
  refine lv_iload_n hx hb jd_pre_4 rfl (lv_at hl 0 rfl) ?_
  refine lv_iload_n hx hb jd_pre_5 rfl (lv_at hl 1 rfl) ?_
  refine lv_icmp_lt (tgt := 16) hx hb jd_pre_6 (by decide) (fun _ => ?_) (fun q => absurd h1 q)
  refine lv_iload_n hx hb jd_pre_16 rfl (lv_at hl 0 rfl) ?_
  exact W.iret hx hb hr (fun t ht hW => ⟨rfl, ht⟩) (fun q hq => absurd hq List.not_mem_nil) jd_pre_17
theorem j_chk (l : Launch) {k n : Int32} (h0 : ¬ k < 0) (h1 : k < n) : Met l jy_chk (Cond.code jy_chk jc_chk 2 none :: zT) { frames := 2, cells := 0, slots := 0, locals := 42 } (va_Pc [.int k, .int n] (zKS base cst adV)) (zJQ none) 0 0 (fun _ => False) := by
  refine Met.ofW (cc := jc_chk) (maxL := 2) (ret := none) (by decide) rfl ?_
  intro p e s m args below meth c s₁ B hml hv
  obtain ⟨rfl, hS⟩ := hv
  have hx := B.exec
  have hb := B.bytes
  have hr := B.returns
  have hts0 := atoms_spec (ws := Cond.code jy_chk jc_chk 2 none :: zT) B.pre
  have hts : ∀ w ∈ zT, w.before _ s = true := fun w hw => hts0 w (List.mem_cons_of_mem _ hw)
  have hown : s.vm.findClass "java/lang/String" = some m.cls := findClass_of_methodNamed B.named
  have hl := lv_entry ([.int k, .int n]) (n := 2) (Nat.le_of_ble_eq_true rfl)
  rw [lg_entry_eq]
  generalize (lg_sl ([.int k, .int n]) ++ List.replicate (2 - (lg_sl ([.int k, .int n])).length) Slot.unset).toArray = ls at hl ⊢
  have hl : lv_has ls 2 [(0, .int k), (1, .int n)] := hl
  have hGd : GoodIn zT (va_wsS "java/lang/String" 1059 jy_pre (Cond.code jy_pre jc_pre 3 (some .int) :: zT)) := zgood (fun w hw => by
    unfold va_wsS at hw
    simp only [List.mem_append, List.mem_cons, List.not_mem_nil, or_false] at hw
    rcases hw with (rfl | rfl | rfl) | rfl | hw
    · exact jw_m1059
    · exact jw_spre
    · exact jw_inP
    · exact jw_cpre
    · exact hw)
  refine lv_iload_n hx hb jd_chk_0 rfl (lv_at hl 0 rfl) ?_
  refine lv_iload_n hx hb jd_chk_1 rfl (lv_at hl 1 rfl) ?_
  have fin : ∀ r : Option Nat, va_Z "jdk/internal/util/Preconditions" "SIOOBE_FORMATTER" "Ljava/util/function/BiFunction;" (va_rf r) (zA base) s s.heap → W p l e (headSpec (Cond.code jy_chk jc_chk 2 none :: zT) { frames := 2, cells := 0, slots := 0, locals := 42 }).room s m ([Value.int k, .int n] : List Value).toArray below meth c s.heap [] 0 0 (MQ below (zJQ none) ([Value.int k, .int n] : List Value).toArray s 0 0 (fun _ => False)) (F0 m 2 ls [.int n, .int k]) := by
    intro r hZ
    refine va_gets hx hb hZ va_S.rf hown (hts _ jw_f1053) (fun _ h => h) jd_chk_2 ?_
    refine zcallJ (va_runS (As := [.int k, .int n, va_rf r]) (rest := []) ⟨hx, hb, hml, hown, hts⟩ (j_pre l (r := r) h0 h1) (va_cwS 3 hts hGd rfl rfl rfl (by decide +kernel) ⟨Nat.le_of_ble_eq_true rfl, Nat.le_of_ble_eq_true rfl⟩) ⟨zKSb, zKSp hS va_S.rf _⟩ rfl rfl hl.1 rfl (lv_room (Nat.le_of_ble_eq_true rfl)) jd_chk_5 ⟨Nat.le_of_ble_eq_true rfl, Nat.le_of_ble_eq_true rfl⟩) ?_
    refine lv_pop hx hb jd_chk_8 rfl ?_
    exact W.vret hx hb hr (fun t ht hW => ⟨rfl, ht⟩) (fun q hq => absurd hq List.not_mem_nil) jd_chk_9
  rcases hS.2.2 with hZ | ⟨t, hZ⟩
  · exact fin none hZ
  · exact fin (some t) hZ
theorem zTx_ok : ∀ t ∈ zTx, ∀ v ∈ t, (((i32 v) &&& 255).toUInt32 % 65536).toInt32 = i32 v ∧ narrow .char (.int (i32 v)) = .int (i32 v) := by decide +kernel
theorem zTx_len : ∀ i, i < 15 → (zTx.map List.length).getD i 0 = (zTx.getD i []).length := by decide +kernel
theorem zTx_byt (i k : Nat) (t : List Int) (v : Int) (ht : zTx[i]? = some t) (hv : t[k]? = some v) : (((zTx.map (fun t => t.map i32)).getD i []).getD k 0) = i32 v := by
  simp [List.getD_eq_getElem?_getD, ht, hv]
theorem j_lat (l : Launch) {i : Nat} (hi : i < 15) {k : Int32} {t : List Int} {v : Int} (h0 : 0 ≤ k) (ht : zTx[i]? = some t) (hv : t[k.toNatClampNeg]? = some v) : Met l jy_lat (Cond.code jy_lat jc_lat 2 (some .char) :: zT) { frames := 3, cells := 0, slots := 0, locals := 63 } (va_Pc [.ref (adV i), .int k] (zKS base cst adV)) (zJQ (some (.int (i32 v)))) 0 0 (fun _ => False) := by
  refine Met.ofW (cc := jc_lat) (maxL := 2) (ret := some .char) (by decide) rfl ?_
  intro p e s m args below meth c s₁ B hml hvv
  obtain ⟨rfl, hS⟩ := hvv
  have hx := B.exec
  have hb := B.bytes
  have hr := B.returns
  have hts0 := atoms_spec (ws := Cond.code jy_lat jc_lat 2 (some .char) :: zT) B.pre
  have hts : ∀ w ∈ zT, w.before _ s = true := fun w hw => hts0 w (List.mem_cons_of_mem _ hw)
  have hown : s.vm.findClass "java/lang/StringLatin1" = some m.cls := findClass_of_methodNamed B.named
  have hl := lv_entry ([.ref (adV i), .int k]) (n := 2) (Nat.le_of_ble_eq_true rfl)
  rw [lg_entry_eq]
  generalize (lg_sl ([.ref (adV i), .int k]) ++ List.replicate (2 - (lg_sl ([.ref (adV i), .int k])).length) Slot.unset).toArray = ls at hl ⊢
  have hl : lv_has ls 2 [(0, .ref (adV i)), (1, .int k)] := hl
  obtain ⟨cell, k1, k2, k3, k4, k5, k6, k7⟩ := (hS.1.1 i hi).2.2.2
  have hlen : (zTx.map List.length).getD i 0 = t.length := by rw [zTx_len i hi]; simp [List.getD_eq_getElem?_getD, ht]
  have hkt : k.toNatClampNeg < t.length := (List.getElem?_eq_some_iff.mp hv).1
  have htm : t ∈ zTx := List.mem_of_getElem? ht
  have hsmall : ∀ t ∈ zTx, t.length < 100 := by decide +kernel
  have hklt : k < Int32.ofNat ((zTx.map List.length).getD i 0) := by
    rw [hlen, Int32.lt_iff_toInt_lt, Int32.toInt_ofNat_of_lt (by have := hsmall t htm; omega)]
    have : (k.toNatClampNeg : Int) = k.toInt := by
      have := Int32.le_iff_toInt_le.mp h0
      show ((k.toInt.toNat : Nat) : Int) = k.toInt
      simp at this
      omega
    omega
  obtain ⟨o1, o2⟩ := zTx_ok t htm v (List.mem_of_getElem? hv)
  have hGd : GoodIn zT (va_wsS "java/lang/StringLatin1" 9 jy_chk (Cond.code jy_chk jc_chk 2 none :: zT)) := zgood (fun w hw => by
    unfold va_wsS at hw
    simp only [List.mem_append, List.mem_cons, List.not_mem_nil, or_false] at hw
    rcases hw with (rfl | rfl | rfl) | rfl | hw
    · exact jw_m9
    · exact jw_schk
    · exact jw_inS
    · exact jw_cchk
    · exact hw)
  refine lv_iload_n hx hb jd_lat_0 rfl (lv_at hl 1 rfl) ?_
  refine lv_aload_n hx hb jd_lat_1 rfl (lv_at hl 0 rfl) ?_
  refine W.alen hx hb k1 k2 k5 rfl rfl jd_lat_2 ?_
  refine zcallJ (va_runS (As := [.int k, .int _]) (rest := []) ⟨hx, hb, hml, hown, hts⟩ (j_chk l (Int32.not_lt.mpr h0) hklt) (va_cwS 2 hts hGd rfl rfl rfl (by decide +kernel) ⟨Nat.le_of_ble_eq_true rfl, Nat.le_of_ble_eq_true rfl⟩) ⟨zKSb, zKSp hS va_S.rf _⟩ rfl rfl hl.1 rfl (lv_room (Nat.le_of_ble_eq_true rfl)) jd_lat_3 ⟨Nat.le_of_ble_eq_true rfl, Nat.le_of_ble_eq_true rfl⟩) ?_
  refine lv_aload_n hx hb jd_lat_6 rfl (lv_at hl 0 rfl) ?_
  refine lv_iload_n hx hb jd_lat_7 rfl (lv_at hl 1 rfl) ?_
  refine W.bald (v := .int (i32 v)) hx hb k1 k2 k3 ?_ (by rw [k6 _ (by rw [hlen]; exact hkt)]; show some (Value.int _) = _; rw [zTx_byt i _ t v ht hv]) rfl rfl jd_lat_8 ?_
  · rintro (q | q)
    · exact absurd h0 (Int32.not_le.mpr q)
    · rw [hlen] at k4; omega
  refine lv_sipush (v := 255) hx hb jd_lat_9 (by decide) ?_
  refine lv_iand hx hb jd_lat_12 ?_
  refine lv_i2c (v := i32 v) hx hb jd_lat_13 o1 ?_
  exact W.zret hx hb hr o2 (fun t ht hW => ⟨rfl, ht⟩) (fun q hq => absurd hq List.not_mem_nil) jd_lat_14
theorem j_charAt (l : Launch) {i : Nat} (hi : i < 15) {k : Int32} {t : List Int} {v : Int} (h0 : 0 ≤ k) (ht : zTx[i]? = some t) (hv : t[k.toNatClampNeg]? = some v) : Met l jy_charAt (Cond.code jy_charAt jc_charAt 2 (some .char) :: zT) { frames := 4, cells := 0, slots := 0, locals := 84 } (va_Pc [.ref (cst (zK1 + i)), .int k] (zKS base cst adV)) (zJQ (some (.int (i32 v)))) 0 0 (fun _ => False) := by
  refine Met.ofW (cc := jc_charAt) (maxL := 2) (ret := some .char) (by decide) rfl ?_
  intro p e s m args below meth c s₁ B hml hvv
  obtain ⟨rfl, hS⟩ := hvv
  have hx := B.exec
  have hb := B.bytes
  have hr := B.returns
  have hts0 := atoms_spec (ws := Cond.code jy_charAt jc_charAt 2 (some .char) :: zT) B.pre
  have hts : ∀ w ∈ zT, w.before _ s = true := fun w hw => hts0 w (List.mem_cons_of_mem _ hw)
  have hown : s.vm.findClass "java/lang/String" = some m.cls := findClass_of_methodNamed B.named
  have hl := lv_entry ([.ref (cst (zK1 + i)), .int k]) (n := 2) (Nat.le_of_ble_eq_true rfl)
  rw [lg_entry_eq]
  generalize (lg_sl ([.ref (cst (zK1 + i)), .int k]) ++ List.replicate (2 - (lg_sl ([.ref (cst (zK1 + i)), .int k])).length) Slot.unset).toArray = ls at hl ⊢
  have hl : lv_has ls 2 [(0, .ref (cst (zK1 + i))), (1, .int k)] := hl
  have htm : t ∈ zTx := List.mem_of_getElem? ht
  obtain ⟨o1, o2⟩ := zTx_ok t htm v (List.mem_of_getElem? hv)
  have hG1 : GoodIn zT (wsV "java/lang/String" 492 "java/lang/String" jy_isL (Cond.code jy_isL jc_isL 1 (some .boolean) :: zT)) := zgood (fun w hw => by
    unfold wsV at hw
    simp only [List.mem_append, List.mem_cons, List.not_mem_nil, or_false] at hw
    rcases hw with (rfl | rfl | rfl | rfl) | rfl | hw
    · exact jw_m492
    · exact jw_iisL
    · exact jw_sisL
    · exact jw_inS
    · exact jw_cisL
    · exact hw)
  have hG2 : GoodIn zT (va_wsS "java/lang/String" 495 jy_lat (Cond.code jy_lat jc_lat 2 (some .char) :: zT)) := zgood (fun w hw => by
    unfold va_wsS at hw
    simp only [List.mem_append, List.mem_cons, List.not_mem_nil, or_false] at hw
    rcases hw with (rfl | rfl | rfl) | rfl | hw
    · exact jw_m495
    · exact jw_slat
    · exact jw_inL
    · exact jw_clat
    · exact hw)
  refine lv_aload_n hx hb jd_charAt_0 rfl (lv_at hl 0 rfl) ?_
  refine zcallJ (va_runV (As := []) (rest := []) ⟨hx, hb, hml, hown, hts⟩ (j_isL l hi) (cwV 0 hts hG1 rfl rfl rfl (by decide +kernel) ⟨Nat.le_of_ble_eq_true rfl, Nat.le_of_ble_eq_true rfl⟩) ⟨zKSb, vk_recv hS.1 hi va_S.rf, zKSp hS va_S.rf _⟩ rfl rfl hl.1 rfl (lv_room (Nat.le_of_ble_eq_true rfl)) jd_charAt_1 ⟨Nat.le_of_ble_eq_true rfl, Nat.le_of_ble_eq_true rfl⟩) ?_
  refine lv_if_eq (tgt := 16) hx hb jd_charAt_4 (by decide) (fun q => absurd q (by decide)) (fun _ => ?_)
  refine lv_aload_n hx hb jd_charAt_7 rfl (lv_at hl 0 rfl) ?_
  refine vk_getf hx hb (hS.1.1 i hi).2.2.1 va_S.rf hown (hts _ jw_f9) (fun _ h => h) jd_charAt_8 ?_
  refine lv_iload_n hx hb jd_charAt_11 rfl (lv_at hl 1 rfl) ?_
  refine zcallJ (va_runS (As := [.ref (adV i), .int k]) (rest := []) ⟨hx, hb, hml, hown, hts⟩ (j_lat l hi h0 ht hv) (va_cwS 2 hts hG2 rfl rfl rfl (by decide +kernel) ⟨Nat.le_of_ble_eq_true rfl, Nat.le_of_ble_eq_true rfl⟩) ⟨zKSb, zKSp hS va_S.rf _⟩ rfl rfl hl.1 rfl (lv_room (Nat.le_of_ble_eq_true rfl)) jd_charAt_12 ⟨Nat.le_of_ble_eq_true rfl, Nat.le_of_ble_eq_true rfl⟩) ?_
  exact W.zret hx hb hr o2 (fun t ht hW => ⟨rfl, ht⟩) (fun q hq => absurd hq List.not_mem_nil) jd_charAt_15
end ZJ
theorem zsok (l : Launch) (base : Nat) (cst adV : Nat → Nat) (D : va_G) (tys : List (ClassId × FieldType)) (KA : Nat → Option (Nat × (Nat → Int32))) : zSok l base cst adV D tys KA := by
  intro p e R s m args below meth c H locs cells slots Q cc pc nL ls st st' h own idx x hx hb hml hts hown hK hKF hSt hfr hlo hcc hsl hd hcase kk
  have hKS : zKS base cst adV s := ⟨hKF.2.2.2.2.2.1, hKF.2.2.2.2.2.2.1, hKF.2.2.2.2.2.2.2⟩
  intro L hL
  have h9 := kk L hL
  obtain ⟨ws, hP, hD, hA, hz, hV⟩ := hSt
  rcases hcase with ⟨hln, hf⟩ | ⟨hln, hf⟩
  · unfold gSn at hf
    split at hf
    · rename_i r s0
      have hf0 := zk8_some hf
      clear hf
      obtain ⟨hcs, hf⟩ := hf0
      obtain ⟨h1, rfl⟩ := Prod.mk.inj (Option.some.inj hf)
      unfold zSn at h1
      split at h1
      · rename_i a
        split at h1
        · rename_i ha
          cases ht : zTx[a - zK1]? with
          | none => rw [ht] at h1; cases h1
          | some t =>
            rw [ht] at h1
            obtain rfl := Option.some.inj h1
            have hi : a - zK1 < 15 := (List.getElem?_eq_some_iff.mp ht).1
            have ea : zcv base cst (.inr (.inr (some a))) = .ref (cst (zK1 + (a - zK1))) := by
              show Value.ref (zrho base cst a) = _
              unfold zrho
              rw [if_neg (by unfold zK1 at ha; unfold zK0; omega), show zK1 + (a - zK1) = a by omega]
            have et : i32 ((zTx.getD (a - zK1) []).length) = i32 t.length := by simp [List.getD_eq_getElem?_getD, ht]
            have hGd : GoodIn zT (wsV own idx "java/lang/String" jy_length (Cond.code jy_length jc_length 1 (some .int) :: zT)) := zgood (fun w hw => by
              unfold wsV at hw
              simp only [List.mem_append, List.mem_cons, List.not_mem_nil, or_false] at hw
              rcases hw with (rfl | rfl | rfl | rfl) | rfl | hw
              · exact hln
              · exact jw_ilength
              · exact jw_slength
              · exact jw_inS
              · exact jw_clength
              · exact hw)
            show W p l e R s m args below meth c H locs cells slots Q (F0 m pc L (zcv base cst (.inr (.inr (some a))) :: s0.map (zcv base cst)))
            rw [ea]
            have hM := j_length (base := base) (cst := cst) (adV := adV) l hi
            rw [et] at hM
            refine zcallJ (va_runV (As := []) (rest := s0.map (zcv base cst)) ⟨hx, hb, hml, hown, hts⟩ hM (cwV 0 hts hGd rfl rfl rfl (by decide +kernel) ⟨by show 2 + 1 ≤ R.frames; omega, by show 8 + (1 + 11) + 40 ≤ R.locals; omega⟩) ⟨zKSb, vk_recv hKS.1 hi hV, zKSp hKS hV _⟩ rfl rfl hL.2.1 rfl (lv_room (by rw [zcs_sum]; exact hcs)) hd ⟨by omega, by omega⟩) ?_
            exact h9
        · cases h1
      · cases h1
    · cases hf
  · unfold gSc at hf
    split at hf
    · rename_i i0 r s0
      have hf0 := zk8_some hf
      clear hf
      obtain ⟨hcs, hf⟩ := hf0
      obtain ⟨h1, rfl⟩ := Prod.mk.inj (Option.some.inj hf)
      unfold zSc at h1
      split at h1
      · rename_i a
        split at h1
        · rename_i ha
          obtain ⟨ha, h0⟩ := ha
          cases ht : zTx[a - zK1]? with
          | none => rw [ht] at h1; cases h1
          | some t =>
            rw [ht] at h1
            simp only [Option.bind_some] at h1
            cases hv : t[i0.toNatClampNeg]? with
            | none => rw [hv] at h1; cases h1
            | some v =>
              rw [hv] at h1
              obtain rfl := Option.some.inj h1
              have hi : a - zK1 < 15 := (List.getElem?_eq_some_iff.mp ht).1
              have ea : zcv base cst (.inr (.inr (some a))) = .ref (cst (zK1 + (a - zK1))) := by
                show Value.ref (zrho base cst a) = _
                unfold zrho
                rw [if_neg (by unfold zK1 at ha; unfold zK0; omega), show zK1 + (a - zK1) = a by omega]
              have hGd : GoodIn zT (wsV own idx "java/lang/String" jy_charAt (Cond.code jy_charAt jc_charAt 2 (some .char) :: zT)) := zgood (fun w hw => by
                unfold wsV at hw
                simp only [List.mem_append, List.mem_cons, List.not_mem_nil, or_false] at hw
                rcases hw with (rfl | rfl | rfl | rfl) | rfl | hw
                · exact hln
                · exact jw_icharAt
                · exact jw_scharAt
                · exact jw_inS
                · exact jw_ccharAt
                · exact hw)
              show W p l e R s m args below meth c H locs cells slots Q (F0 m pc L (.int i0 :: zcv base cst (.inr (.inr (some a))) :: s0.map (zcv base cst)))
              rw [ea]
              refine zcallJ (va_runV (As := [.int i0]) (rest := s0.map (zcv base cst)) ⟨hx, hb, hml, hown, hts⟩ (j_charAt (base := base) (cst := cst) (adV := adV) l hi h0 ht hv) (cwV 1 hts hGd rfl rfl rfl (by decide +kernel) ⟨by show 4 + 1 ≤ R.frames; omega, by show 8 + (2 + 11) + 84 ≤ R.locals; omega⟩) ⟨zKSb, vk_recv hKS.1 hi hV, zKSp hKS hV _⟩ rfl rfl hL.2.1 rfl (lv_room (by rw [zcs_sum]; exact hcs)) hd ⟨by omega, by omega⟩) ?_
              exact h9
        · cases h1
      · cases h1
    · cases hf
