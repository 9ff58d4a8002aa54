set_option maxRecDepth 100000 in
theorem wd_1334 : (Jvm.Cond.methodLink "ReedOracles$Survey" (115 : Nat) ({ cls := "ReedOracles$Survey", name := "mostHeard", desc := "(LReedOracles$Duchy;II)I" } : Jvm.MethodName)) ∈ zT := zT_mem (tb6 _ (List.mem_of_getElem? (l := tables_1_6) (i := 16) rfl)) rfl
set_option maxRecDepth 100000 in
theorem wd_1336 : (Jvm.Cond.instanceMethod ({ cls := "ReedOracles$Survey", name := "mostHeard", desc := "(LReedOracles$Duchy;II)I" } : Jvm.MethodName)) ∈ zT := zT_mem (tb6 _ (List.mem_of_getElem? (l := tables_1_6) (i := 18) rfl)) rfl
set_option maxRecDepth 100000 in
theorem wd_1337 : (Jvm.Cond.code ({ cls := "ReedOracles$Survey", name := "mostHeard", desc := "(LReedOracles$Duchy;II)I" } : Jvm.MethodName) prog_8_method_26_code (8 : Nat) (Option.some Jvm.ClassFile.FieldType.int)) ∈ zT := zT_mem (tb6 _ (List.mem_of_getElem? (l := tables_1_6) (i := 19) rfl)) rfl
set_option maxRecDepth 100000 in
theorem wd_1338 : (Jvm.Cond.methodLink "ReedOracles$Survey" (121 : Nat) ({ cls := "ReedOracles$Duchy", name := "hasPlayer", desc := "(I)Z" } : Jvm.MethodName)) ∈ zT := zT_mem (tb6 _ (List.mem_of_getElem? (l := tables_1_6) (i := 20) rfl)) rfl
set_option maxRecDepth 100000 in
theorem wd_1339 : (Jvm.Cond.methodLink "ReedOracles" (337 : Nat) ({ cls := "ReedOracles$Survey", name := "ownerOf", desc := "(LReedOracles$Duchy;I)I" } : Jvm.MethodName)) ∈ zT := zT_mem (tb6 _ (List.mem_of_getElem? (l := tables_1_6) (i := 21) rfl)) rfl
set_option maxRecDepth 100000 in
theorem wd_1340 : (Jvm.Cond.instanceMethod ({ cls := "ReedOracles$Survey", name := "ownerOf", desc := "(LReedOracles$Duchy;I)I" } : Jvm.MethodName)) ∈ zT := zT_mem (tb6 _ (List.mem_of_getElem? (l := tables_1_6) (i := 22) rfl)) rfl
set_option maxRecDepth 100000 in
theorem wd_1341 : (Jvm.Cond.selects "ReedOracles$Survey" ({ cls := "ReedOracles$Survey", name := "ownerOf", desc := "(LReedOracles$Duchy;I)I" } : Jvm.MethodName) ({ cls := "ReedOracles$Survey", name := "ownerOf", desc := "(LReedOracles$Duchy;I)I" } : Jvm.MethodName)) ∈ zT := zT_mem (tb6 _ (List.mem_of_getElem? (l := tables_1_6) (i := 23) rfl)) rfl
set_option maxRecDepth 100000 in
theorem wd_1342 : (Jvm.Cond.code ({ cls := "ReedOracles$Survey", name := "ownerOf", desc := "(LReedOracles$Duchy;I)I" } : Jvm.MethodName) prog_8_method_27_code (4 : Nat) (Option.some Jvm.ClassFile.FieldType.int)) ∈ zT := zT_mem (tb6 _ (List.mem_of_getElem? (l := tables_1_6) (i := 24) rfl)) rfl
set_option maxRecDepth 100000 in
theorem wd_1343 : (Jvm.Cond.methodLink "ReedOraclesLaw" (160 : Nat) ({ cls := "ReedOracles", name := "wets", desc := "(II)I" } : Jvm.MethodName)) ∈ zT := zT_mem (tb6 _ (List.mem_of_getElem? (l := tables_1_6) (i := 25) rfl)) rfl
set_option maxRecDepth 100000 in
theorem wd_1344 : (Jvm.Cond.instanceMethod ({ cls := "ReedOracles", name := "wets", desc := "(II)I" } : Jvm.MethodName)) ∈ zT := zT_mem (tb6 _ (List.mem_of_getElem? (l := tables_1_6) (i := 26) rfl)) rfl
set_option maxRecDepth 100000 in
theorem wd_1345 : (Jvm.Cond.selects "ReedOracles" ({ cls := "ReedOracles", name := "wets", desc := "(II)I" } : Jvm.MethodName) ({ cls := "ReedOracles", name := "wets", desc := "(II)I" } : Jvm.MethodName)) ∈ zT := zT_mem (tb6 _ (List.mem_of_getElem? (l := tables_1_6) (i := 27) rfl)) rfl
set_option maxRecDepth 100000 in
theorem wd_1346 : (Jvm.Cond.code ({ cls := "ReedOracles", name := "wets", desc := "(II)I" } : Jvm.MethodName) prog_1_method_36_code (4 : Nat) (Option.some Jvm.ClassFile.FieldType.int)) ∈ zT := zT_mem (tb6 _ (List.mem_of_getElem? (l := tables_1_6) (i := 28) rfl)) rfl
set_option maxRecDepth 100000 in
theorem wd_1347 : (Jvm.Cond.methodLink "ReedOracles" (343 : Nat) ({ cls := "ReedOracles$Survey", name := "wettings", desc := "(LReedOracles$Duchy;I)I" } : Jvm.MethodName)) ∈ zT := zT_mem (tb6 _ (List.mem_of_getElem? (l := tables_1_6) (i := 29) rfl)) rfl
set_option maxRecDepth 100000 in
theorem wd_1348 : (Jvm.Cond.instanceMethod ({ cls := "ReedOracles$Survey", name := "wettings", desc := "(LReedOracles$Duchy;I)I" } : Jvm.MethodName)) ∈ zT := zT_mem (tb6 _ (List.mem_of_getElem? (l := tables_1_6) (i := 30) rfl)) rfl
set_option maxRecDepth 100000 in
theorem wd_1349 : (Jvm.Cond.selects "ReedOracles$Survey" ({ cls := "ReedOracles$Survey", name := "wettings", desc := "(LReedOracles$Duchy;I)I" } : Jvm.MethodName) ({ cls := "ReedOracles$Survey", name := "wettings", desc := "(LReedOracles$Duchy;I)I" } : Jvm.MethodName)) ∈ zT := zT_mem (tb6 _ (List.mem_of_getElem? (l := tables_1_6) (i := 31) rfl)) rfl
set_option maxRecDepth 100000 in
theorem wd_1350 : (Jvm.Cond.code ({ cls := "ReedOracles$Survey", name := "wettings", desc := "(LReedOracles$Duchy;I)I" } : Jvm.MethodName) prog_8_method_28_code (5 : Nat) (Option.some Jvm.ClassFile.FieldType.int)) ∈ zT := zT_mem (tb6 _ (List.mem_of_getElem? (l := tables_1_6) (i := 32) rfl)) rfl
set_option maxRecDepth 100000 in
theorem wd_1351 : (Jvm.Cond.methodLink "ReedOracles$Survey" (125 : Nat) ({ cls := "ReedOracles$Survey", name := "neverCoughs", desc := "(LReedOracles$Duchy;I)Z" } : Jvm.MethodName)) ∈ zT := zT_mem (tb6 _ (List.mem_of_getElem? (l := tables_1_6) (i := 33) rfl)) rfl
set_option maxRecDepth 100000 in
theorem wd_1352 : (Jvm.Cond.static ({ cls := "ReedOracles$Survey", name := "neverCoughs", desc := "(LReedOracles$Duchy;I)Z" } : Jvm.MethodName)) ∈ zT := zT_mem (tb6 _ (List.mem_of_getElem? (l := tables_1_6) (i := 34) rfl)) rfl
set_option maxRecDepth 100000 in
theorem wd_1353 : (Jvm.Cond.code ({ cls := "ReedOracles$Survey", name := "neverCoughs", desc := "(LReedOracles$Duchy;I)Z" } : Jvm.MethodName) prog_8_method_29_code (4 : Nat) (Option.some Jvm.ClassFile.FieldType.boolean)) ∈ zT := zT_mem (tb6 _ (List.mem_of_getElem? (l := tables_1_6) (i := 35) rfl)) rfl
set_option maxRecDepth 100000 in
theorem wd_1355 : (Jvm.Cond.methodLink "ReedOraclesLaw" (164 : Nat) ({ cls := "ReedOracles", name := "clearest", desc := "(IIZ)I" } : Jvm.MethodName)) ∈ zT := zT_mem (tb6 _ (List.mem_of_getElem? (l := tables_1_6) (i := 37) rfl)) rfl
set_option maxRecDepth 100000 in
theorem wd_1356 : (Jvm.Cond.instanceMethod ({ cls := "ReedOracles", name := "clearest", desc := "(IIZ)I" } : Jvm.MethodName)) ∈ zT := zT_mem (tb6 _ (List.mem_of_getElem? (l := tables_1_6) (i := 38) rfl)) rfl
set_option maxRecDepth 100000 in
theorem wd_1357 : (Jvm.Cond.selects "ReedOracles" ({ cls := "ReedOracles", name := "clearest", desc := "(IIZ)I" } : Jvm.MethodName) ({ cls := "ReedOracles", name := "clearest", desc := "(IIZ)I" } : Jvm.MethodName)) ∈ zT := zT_mem (tb6 _ (List.mem_of_getElem? (l := tables_1_6) (i := 39) rfl)) rfl
set_option maxRecDepth 100000 in
theorem wd_1358 : (Jvm.Cond.code ({ cls := "ReedOracles", name := "clearest", desc := "(IIZ)I" } : Jvm.MethodName) prog_1_method_37_code (6 : Nat) (Option.some Jvm.ClassFile.FieldType.int)) ∈ zT := zT_mem (tb6 _ (List.mem_of_getElem? (l := tables_1_6) (i := 40) rfl)) rfl
set_option maxRecDepth 100000 in
theorem wd_1359 : (Jvm.Cond.methodLink "ReedOracles" (346 : Nat) ({ cls := "ReedOracles$Survey", name := "clearestReed", desc := "(LReedOracles$Duchy;I)I" } : Jvm.MethodName)) ∈ zT := zT_mem (tb6 _ (List.mem_of_getElem? (l := tables_1_6) (i := 41) rfl)) rfl
set_option maxRecDepth 100000 in
theorem wd_1360 : (Jvm.Cond.instanceMethod ({ cls := "ReedOracles$Survey", name := "clearestReed", desc := "(LReedOracles$Duchy;I)I" } : Jvm.MethodName)) ∈ zT := zT_mem (tb6 _ (List.mem_of_getElem? (l := tables_1_6) (i := 42) rfl)) rfl
set_option maxRecDepth 100000 in
theorem wd_1361 : (Jvm.Cond.selects "ReedOracles$Survey" ({ cls := "ReedOracles$Survey", name := "clearestReed", desc := "(LReedOracles$Duchy;I)I" } : Jvm.MethodName) ({ cls := "ReedOracles$Survey", name := "clearestReed", desc := "(LReedOracles$Duchy;I)I" } : Jvm.MethodName)) ∈ zT := zT_mem (tb6 _ (List.mem_of_getElem? (l := tables_1_6) (i := 43) rfl)) rfl
set_option maxRecDepth 100000 in
theorem wd_1362 : (Jvm.Cond.code ({ cls := "ReedOracles$Survey", name := "clearestReed", desc := "(LReedOracles$Duchy;I)I" } : Jvm.MethodName) prog_8_method_31_code (7 : Nat) (Option.some Jvm.ClassFile.FieldType.int)) ∈ zT := zT_mem (tb6 _ (List.mem_of_getElem? (l := tables_1_6) (i := 44) rfl)) rfl
set_option maxRecDepth 100000 in
theorem wd_1363 : (Jvm.Cond.methodLink "ReedOracles$Survey" (138 : Nat) ({ cls := "ReedOracles$Survey", name := "agreement", desc := "(LReedOracles$Duchy;II)I" } : Jvm.MethodName)) ∈ zT := zT_mem (tb6 _ (List.mem_of_getElem? (l := tables_1_6) (i := 45) rfl)) rfl
set_option maxRecDepth 100000 in
theorem wd_1364 : (Jvm.Cond.instanceMethod ({ cls := "ReedOracles$Survey", name := "agreement", desc := "(LReedOracles$Duchy;II)I" } : Jvm.MethodName)) ∈ zT := zT_mem (tb6 _ (List.mem_of_getElem? (l := tables_1_6) (i := 46) rfl)) rfl
set_option maxRecDepth 100000 in
theorem wd_1365 : (Jvm.Cond.selects "ReedOracles$Survey" ({ cls := "ReedOracles$Survey", name := "agreement", desc := "(LReedOracles$Duchy;II)I" } : Jvm.MethodName) ({ cls := "ReedOracles$Survey", name := "agreement", desc := "(LReedOracles$Duchy;II)I" } : Jvm.MethodName)) ∈ zT := zT_mem (tb6 _ (List.mem_of_getElem? (l := tables_1_6) (i := 47) rfl)) rfl
set_option maxRecDepth 100000 in
theorem wd_1366 : (Jvm.Cond.code ({ cls := "ReedOracles$Survey", name := "agreement", desc := "(LReedOracles$Duchy;II)I" } : Jvm.MethodName) prog_8_method_30_code (8 : Nat) (Option.some Jvm.ClassFile.FieldType.int)) ∈ zT := zT_mem (tb6 _ (List.mem_of_getElem? (l := tables_1_6) (i := 48) rfl)) rfl
set_option maxRecDepth 100000 in
theorem wd_1367 : (Jvm.Cond.methodLink "ReedOracles$Survey" (132 : Nat) ({ cls := "java/lang/Math", name := "max", desc := "(II)I" } : Jvm.MethodName)) ∈ zT := zT_mem (tb6 _ (List.mem_of_getElem? (l := tables_1_6) (i := 49) rfl)) rfl
set_option maxRecDepth 100000 in
theorem wd_1368 : (Jvm.Cond.methodLink "ReedOracles" (349 : Nat) ({ cls := "ReedOracles$Survey", name := "agreement", desc := "(LReedOracles$Duchy;II)I" } : Jvm.MethodName)) ∈ zT := zT_mem (tb6 _ (List.mem_of_getElem? (l := tables_1_6) (i := 50) rfl)) rfl
set_option maxRecDepth 100000 in
theorem wd_1369 : (Jvm.Cond.methodLink "ReedOraclesLaw" (168 : Nat) ({ cls := "ReedOracles", name := "count", desc := "(I)I" } : Jvm.MethodName)) ∈ zT := zT_mem (tb6 _ (List.mem_of_getElem? (l := tables_1_6) (i := 51) rfl)) rfl
set_option maxRecDepth 100000 in
theorem wd_1370 : (Jvm.Cond.instanceMethod ({ cls := "ReedOracles", name := "count", desc := "(I)I" } : Jvm.MethodName)) ∈ zT := zT_mem (tb6 _ (List.mem_of_getElem? (l := tables_1_6) (i := 52) rfl)) rfl
set_option maxRecDepth 100000 in
theorem wd_1371 : (Jvm.Cond.selects "ReedOracles" ({ cls := "ReedOracles", name := "count", desc := "(I)I" } : Jvm.MethodName) ({ cls := "ReedOracles", name := "count", desc := "(I)I" } : Jvm.MethodName)) ∈ zT := zT_mem (tb6 _ (List.mem_of_getElem? (l := tables_1_6) (i := 53) rfl)) rfl
set_option maxRecDepth 100000 in
theorem wd_1372 : (Jvm.Cond.code ({ cls := "ReedOracles", name := "count", desc := "(I)I" } : Jvm.MethodName) prog_1_method_38_code (2 : Nat) (Option.some Jvm.ClassFile.FieldType.int)) ∈ zT := zT_mem (tb6 _ (List.mem_of_getElem? (l := tables_1_6) (i := 54) rfl)) rfl
set_option maxRecDepth 100000 in
theorem wd_1373 : (Jvm.Cond.methodLink "ReedOraclesLaw" (172 : Nat) ({ cls := "ReedOracles", name := "image", desc := "(I)Z" } : Jvm.MethodName)) ∈ zT := zT_mem (tb6 _ (List.mem_of_getElem? (l := tables_1_6) (i := 55) rfl)) rfl
set_option maxRecDepth 100000 in
theorem wd_1374 : (Jvm.Cond.instanceMethod ({ cls := "ReedOracles", name := "image", desc := "(I)Z" } : Jvm.MethodName)) ∈ zT := zT_mem (tb6 _ (List.mem_of_getElem? (l := tables_1_6) (i := 56) rfl)) rfl
set_option maxRecDepth 100000 in
theorem wd_1375 : (Jvm.Cond.selects "ReedOracles" ({ cls := "ReedOracles", name := "image", desc := "(I)Z" } : Jvm.MethodName) ({ cls := "ReedOracles", name := "image", desc := "(I)Z" } : Jvm.MethodName)) ∈ zT := zT_mem (tb6 _ (List.mem_of_getElem? (l := tables_1_6) (i := 57) rfl)) rfl
set_option maxRecDepth 100000 in
theorem wd_1376 : (Jvm.Cond.code ({ cls := "ReedOracles", name := "image", desc := "(I)Z" } : Jvm.MethodName) prog_1_method_39_code (2 : Nat) (Option.some Jvm.ClassFile.FieldType.boolean)) ∈ zT := zT_mem (tb6 _ (List.mem_of_getElem? (l := tables_1_6) (i := 58) rfl)) rfl
set_option maxRecDepth 100000 in
theorem wd_1377 : (Jvm.Cond.methodLink "ReedOracles" (358 : Nat) ({ cls := "ReedOracles$Told", name := "copy", desc := "(LReedOracles$Told;)V" } : Jvm.MethodName)) ∈ zT := zT_mem (tb6 _ (List.mem_of_getElem? (l := tables_1_6) (i := 59) rfl)) rfl
set_option maxRecDepth 100000 in
theorem wd_1378 : (Jvm.Cond.instanceMethod ({ cls := "ReedOracles$Told", name := "copy", desc := "(LReedOracles$Told;)V" } : Jvm.MethodName)) ∈ zT := zT_mem (tb6 _ (List.mem_of_getElem? (l := tables_1_6) (i := 60) rfl)) rfl
set_option maxRecDepth 100000 in
theorem wd_1379 : (Jvm.Cond.selects "ReedOracles$Told" ({ cls := "ReedOracles$Told", name := "copy", desc := "(LReedOracles$Told;)V" } : Jvm.MethodName) ({ cls := "ReedOracles$Told", name := "copy", desc := "(LReedOracles$Told;)V" } : Jvm.MethodName)) ∈ zT := zT_mem (tb6 _ (List.mem_of_getElem? (l := tables_1_6) (i := 61) rfl)) rfl
set_option maxRecDepth 100000 in
theorem wd_1380 : (Jvm.Cond.code ({ cls := "ReedOracles$Told", name := "copy", desc := "(LReedOracles$Told;)V" } : Jvm.MethodName) prog_11_method_2_code (3 : Nat) (Option.none : Option Jvm.ClassFile.FieldType)) ∈ zT := zT_mem (tb6 _ (List.mem_of_getElem? (l := tables_1_6) (i := 62) rfl)) rfl
set_option maxRecDepth 100000 in
theorem wd_1381 : (Jvm.Cond.methodLink "ReedOracles$Told" (50 : Nat) ({ cls := "ReedOracles$Tape", name := "copy", desc := "(LReedOracles$Tape;)V" } : Jvm.MethodName)) ∈ zT := zT_mem (tb6 _ (List.mem_of_getElem? (l := tables_1_6) (i := 63) rfl)) rfl
set_option maxRecDepth 100000 in
theorem wd_1382 : (Jvm.Cond.instanceMethod ({ cls := "ReedOracles$Tape", name := "copy", desc := "(LReedOracles$Tape;)V" } : Jvm.MethodName)) ∈ zT := zT_mem (tb6 _ (List.mem_of_getElem? (l := tables_1_6) (i := 64) rfl)) rfl
set_option maxRecDepth 100000 in
theorem wd_1383 : (Jvm.Cond.selects "ReedOracles$Tape" ({ cls := "ReedOracles$Tape", name := "copy", desc := "(LReedOracles$Tape;)V" } : Jvm.MethodName) ({ cls := "ReedOracles$Tape", name := "copy", desc := "(LReedOracles$Tape;)V" } : Jvm.MethodName)) ∈ zT := zT_mem (tb6 _ (List.mem_of_getElem? (l := tables_1_6) (i := 65) rfl)) rfl
set_option maxRecDepth 100000 in
theorem wd_1384 : (Jvm.Cond.code ({ cls := "ReedOracles$Tape", name := "copy", desc := "(LReedOracles$Tape;)V" } : Jvm.MethodName) prog_10_method_3_code (2 : Nat) (Option.none : Option Jvm.ClassFile.FieldType)) ∈ zT := zT_mem (tb6 _ (List.mem_of_getElem? (l := tables_1_6) (i := 66) rfl)) rfl
set_option maxRecDepth 100000 in
theorem wd_1385 : (Jvm.Cond.methodLink "ReedOracles$Tape" (19 : Nat) ({ cls := "java/lang/System", name := "arraycopy", desc := "(Ljava/lang/Object;ILjava/lang/Object;II)V" } : Jvm.MethodName)) ∈ zT := zT_mem (tb6 _ (List.mem_of_getElem? (l := tables_1_6) (i := 67) rfl)) rfl
set_option maxRecDepth 100000 in
theorem wd_1386 : (Jvm.Cond.methodLink "ReedOracles$Told" (63 : Nat) ({ cls := "java/lang/System", name := "arraycopy", desc := "(Ljava/lang/Object;ILjava/lang/Object;II)V" } : Jvm.MethodName)) ∈ zT := zT_mem (tb6 _ (List.mem_of_getElem? (l := tables_1_6) (i := 68) rfl)) rfl
set_option maxRecDepth 100000 in
theorem wd_1387 : (Jvm.Cond.methodLink "ReedOraclesLaw" (177 : Nat) ({ cls := "ReedOracles", name := "again", desc := "(I)Z" } : Jvm.MethodName)) ∈ zT := zT_mem (tb6 _ (List.mem_of_getElem? (l := tables_1_6) (i := 69) rfl)) rfl
set_option maxRecDepth 100000 in
theorem wd_1388 : (Jvm.Cond.instanceMethod ({ cls := "ReedOracles", name := "again", desc := "(I)Z" } : Jvm.MethodName)) ∈ zT := zT_mem (tb6 _ (List.mem_of_getElem? (l := tables_1_6) (i := 70) rfl)) rfl
set_option maxRecDepth 100000 in
theorem wd_1389 : (Jvm.Cond.selects "ReedOracles" ({ cls := "ReedOracles", name := "again", desc := "(I)Z" } : Jvm.MethodName) ({ cls := "ReedOracles", name := "again", desc := "(I)Z" } : Jvm.MethodName)) ∈ zT := zT_mem (tb6 _ (List.mem_of_getElem? (l := tables_1_6) (i := 71) rfl)) rfl
set_option maxRecDepth 100000 in
theorem wd_1390 : (Jvm.Cond.code ({ cls := "ReedOracles", name := "again", desc := "(I)Z" } : Jvm.MethodName) prog_1_method_40_code (2 : Nat) (Option.some Jvm.ClassFile.FieldType.boolean)) ∈ zT := zT_mem (tb6 _ (List.mem_of_getElem? (l := tables_1_6) (i := 72) rfl)) rfl
set_option maxRecDepth 100000 in
theorem wd_1391 : (Jvm.Cond.classLink "ReedOraclesLaw" (10 : Nat) "ReedOraclesModel") ∈ zT := zT_mem (tb6 _ (List.mem_of_getElem? (l := tables_1_6) (i := 73) rfl)) rfl
set_option maxRecDepth 100000 in
theorem wd_1392 : (Jvm.Cond.instantiable "ReedOraclesModel" (43 : Nat)) ∈ zT := zT_mem (tb6 _ (List.mem_of_getElem? (l := tables_1_6) (i := 74) rfl)) rfl
set_option maxRecDepth 100000 in
theorem wd_1393 : (Jvm.Cond.methodLink "ReedOraclesLaw" (12 : Nat) ({ cls := "ReedOraclesModel", name := "<init>", desc := "()V" } : Jvm.MethodName)) ∈ zT := zT_mem (tb6 _ (List.mem_of_getElem? (l := tables_1_6) (i := 75) rfl)) rfl
set_option maxRecDepth 100000 in
theorem wd_1394 : (Jvm.Cond.instanceMethod ({ cls := "ReedOraclesModel", name := "<init>", desc := "()V" } : Jvm.MethodName)) ∈ zT := zT_mem (tb6 _ (List.mem_of_getElem? (l := tables_1_6) (i := 76) rfl)) rfl
set_option maxRecDepth 100000 in
theorem wd_1395 : (Jvm.Cond.code ({ cls := "ReedOraclesModel", name := "<init>", desc := "()V" } : Jvm.MethodName) prog_14_method_1_code (1 : Nat) (Option.none : Option Jvm.ClassFile.FieldType)) ∈ zT := zT_mem (tb6 _ (List.mem_of_getElem? (l := tables_1_6) (i := 77) rfl)) rfl
set_option maxRecDepth 100000 in
theorem wd_1396 : (Jvm.Cond.methodLink "ReedOraclesModel" (1 : Nat) ({ cls := "java/lang/Object", name := "<init>", desc := "()V" } : Jvm.MethodName)) ∈ zT := zT_mem (tb6 _ (List.mem_of_getElem? (l := tables_1_6) (i := 78) rfl)) rfl
set_option maxRecDepth 100000 in
theorem wd_1397 : (Jvm.Cond.fieldLink "ReedOraclesModel" (7 : Nat) "ReedOraclesModel" "all" "[I") ∈ zT := zT_mem (tb6 _ (List.mem_of_getElem? (l := tables_1_6) (i := 79) rfl)) rfl
set_option maxRecDepth 100000 in
theorem wd_1398 : (Jvm.Cond.fieldLink "ReedOraclesModel" (13 : Nat) "ReedOraclesModel" "has" "[Z") ∈ zT := zT_mem (tb6 _ (List.mem_of_getElem? (l := tables_1_6) (i := 80) rfl)) rfl
set_option maxRecDepth 100000 in
theorem wd_1399 : (Jvm.Cond.fieldLink "ReedOraclesModel" (59 : Nat) "ReedOraclesModel" "size" "I") ∈ zT := zT_mem (tb6 _ (List.mem_of_getElem? (l := tables_1_6) (i := 81) rfl)) rfl
set_option maxRecDepth 100000 in
theorem wd_1400 : (Jvm.Cond.fieldLink "ReedOraclesModel" (73 : Nat) "ReedOraclesModel" "next" "I") ∈ zT := zT_mem (tb6 _ (List.mem_of_getElem? (l := tables_1_6) (i := 82) rfl)) rfl
set_option maxRecDepth 100000 in
theorem wd_1401 : (Jvm.Cond.fieldLink "ReedOraclesModel" (80 : Nat) "ReedOraclesModel" "where" "I") ∈ zT := zT_mem (tb6 _ (List.mem_of_getElem? (l := tables_1_6) (i := 83) rfl)) rfl
set_option maxRecDepth 100000 in
theorem wd_1402 : (Jvm.Cond.fieldLink "ReedOraclesModel" (83 : Nat) "ReedOraclesModel" "token" "I") ∈ zT := zT_mem (tb6 _ (List.mem_of_getElem? (l := tables_1_6) (i := 84) rfl)) rfl
set_option maxRecDepth 100000 in
theorem wd_1403 : (Jvm.Cond.fieldLink "ReedOraclesModel" (104 : Nat) "ReedOraclesModel" "number" "I") ∈ zT := zT_mem (tb6 _ (List.mem_of_getElem? (l := tables_1_6) (i := 85) rfl)) rfl
set_option maxRecDepth 100000 in
theorem wd_1404 : (Jvm.Cond.fieldLink "ReedOraclesModel" (98 : Nat) "ReedOraclesModel" "word" "I") ∈ zT := zT_mem (tb6 _ (List.mem_of_getElem? (l := tables_1_6) (i := 86) rfl)) rfl
set_option maxRecDepth 100000 in
theorem wd_1405 : (Jvm.Cond.fieldLink "ReedOraclesModel" (107 : Nat) "ReedOraclesModel" "wrong" "Z") ∈ zT := zT_mem (tb6 _ (List.mem_of_getElem? (l := tables_1_6) (i := 87) rfl)) rfl
set_option maxRecDepth 100000 in
theorem wd_1406 : (Jvm.Cond.fieldLink "ReedOraclesModel" (17 : Nat) "ReedOraclesModel" "read" "[I") ∈ zT := zT_mem (tb6 _ (List.mem_of_getElem? (l := tables_1_6) (i := 88) rfl)) rfl
set_option maxRecDepth 100000 in
theorem wd_1407 : (Jvm.Cond.fieldLink "ReedOraclesModel" (164 : Nat) "ReedOraclesModel" "d0" "I") ∈ zT := zT_mem (tb6 _ (List.mem_of_getElem? (l := tables_1_6) (i := 89) rfl)) rfl
set_option maxRecDepth 100000 in
theorem wd_1408 : (Jvm.Cond.fieldLink "ReedOraclesModel" (167 : Nat) "ReedOraclesModel" "reeds" "I") ∈ zT := zT_mem (tb6 _ (List.mem_of_getElem? (l := tables_1_6) (i := 90) rfl)) rfl
set_option maxRecDepth 100000 in
theorem wd_1409 : (Jvm.Cond.fieldLink "ReedOraclesModel" (170 : Nat) "ReedOraclesModel" "players" "I") ∈ zT := zT_mem (tb6 _ (List.mem_of_getElem? (l := tables_1_6) (i := 91) rfl)) rfl
set_option maxRecDepth 100000 in
theorem wd_1410 : (Jvm.Cond.fieldLink "ReedOraclesModel" (173 : Nat) "ReedOraclesModel" "questions" "I") ∈ zT := zT_mem (tb6 _ (List.mem_of_getElem? (l := tables_1_6) (i := 92) rfl)) rfl
set_option maxRecDepth 100000 in
theorem wd_1411 : (Jvm.Cond.fieldLink "ReedOraclesModel" (203 : Nat) "ReedOraclesModel" "wetNow" "I") ∈ zT := zT_mem (tb6 _ (List.mem_of_getElem? (l := tables_1_6) (i := 93) rfl)) rfl
set_option maxRecDepth 100000 in
theorem wd_1412 : (Jvm.Cond.fieldLink "ReedOraclesModel" (206 : Nat) "ReedOraclesModel" "keyNow" "I") ∈ zT := zT_mem (tb6 _ (List.mem_of_getElem? (l := tables_1_6) (i := 94) rfl)) rfl
set_option maxRecDepth 100000 in
theorem wd_1413 : (Jvm.Cond.fieldLink "ReedOraclesModel" (209 : Nat) "ReedOraclesModel" "coldNow" "I") ∈ zT := zT_mem (tb6 _ (List.mem_of_getElem? (l := tables_1_6) (i := 95) rfl)) rfl
set_option maxRecDepth 100000 in
theorem wd_1414 : (Jvm.Cond.fieldLink "ReedOraclesModel" (20 : Nat) "ReedOraclesModel" "acts" "[I") ∈ zT := zT_mem (tb6 _ (List.mem_of_getElem? (l := tables_1_6) (i := 96) rfl)) rfl
set_option maxRecDepth 100000 in
theorem wd_1415 : (Jvm.Cond.fieldLink "ReedOraclesModel" (23 : Nat) "ReedOraclesModel" "favours" "[I") ∈ zT := zT_mem (tb6 _ (List.mem_of_getElem? (l := tables_1_6) (i := 97) rfl)) rfl
set_option maxRecDepth 100000 in
theorem wd_1416 : (Jvm.Cond.fieldLink "ReedOraclesModel" (26 : Nat) "ReedOraclesModel" "dares" "[I") ∈ zT := zT_mem (tb6 _ (List.mem_of_getElem? (l := tables_1_6) (i := 98) rfl)) rfl
set_option maxRecDepth 100000 in
theorem wd_1417 : (Jvm.Cond.fieldLink "ReedOraclesModel" (251 : Nat) "ReedOraclesModel" "daresFirst" "I") ∈ zT := zT_mem (tb6 _ (List.mem_of_getElem? (l := tables_1_6) (i := 99) rfl)) rfl
set_option maxRecDepth 100000 in
theorem wd_1418 : (Jvm.Cond.fieldLink "ReedOraclesModel" (29 : Nat) "ReedOraclesModel" "programs" "[I") ∈ zT := zT_mem (tb6 _ (List.mem_of_getElem? (l := tables_1_6) (i := 100) rfl)) rfl
set_option maxRecDepth 100000 in
theorem wd_1419 : (Jvm.Cond.fieldLink "ReedOraclesModel" (32 : Nat) "ReedOraclesModel" "ownerOf" "[I") ∈ zT := zT_mem (tb6 _ (List.mem_of_getElem? (l := tables_1_6) (i := 101) rfl)) rfl
set_option maxRecDepth 100000 in
theorem wd_1420 : (Jvm.Cond.fieldLink "ReedOraclesModel" (35 : Nat) "ReedOraclesModel" "askedFor" "[I") ∈ zT := zT_mem (tb6 _ (List.mem_of_getElem? (l := tables_1_6) (i := 102) rfl)) rfl
set_option maxRecDepth 100000 in
theorem wd_1421 : (Jvm.Cond.fieldLink "ReedOraclesModel" (307 : Nat) "ReedOraclesModel" "y0" "I") ∈ zT := zT_mem (tb6 _ (List.mem_of_getElem? (l := tables_1_6) (i := 103) rfl)) rfl
set_option maxRecDepth 100000 in
theorem wd_1422 : (Jvm.Cond.fieldLink "ReedOraclesModel" (313 : Nat) "ReedOraclesModel" "nights" "I") ∈ zT := zT_mem (tb6 _ (List.mem_of_getElem? (l := tables_1_6) (i := 104) rfl)) rfl
set_option maxRecDepth 100000 in
theorem wd_1423 : (Jvm.Cond.fieldLink "ReedOraclesModel" (316 : Nat) "ReedOraclesModel" "cracked" "I") ∈ zT := zT_mem (tb6 _ (List.mem_of_getElem? (l := tables_1_6) (i := 105) rfl)) rfl
set_option maxRecDepth 100000 in
theorem wd_1424 : (Jvm.Cond.fieldLink "ReedOraclesModel" (319 : Nat) "ReedOraclesModel" "deaths" "I") ∈ zT := zT_mem (tb6 _ (List.mem_of_getElem? (l := tables_1_6) (i := 106) rfl)) rfl
set_option maxRecDepth 100000 in
theorem wd_1425 : (Jvm.Cond.fieldLink "ReedOraclesModel" (322 : Nat) "ReedOraclesModel" "marches" "I") ∈ zT := zT_mem (tb6 _ (List.mem_of_getElem? (l := tables_1_6) (i := 107) rfl)) rfl
set_option maxRecDepth 100000 in
theorem wd_1426 : (Jvm.Cond.fieldLink "ReedOraclesModel" (325 : Nat) "ReedOraclesModel" "clashes" "I") ∈ zT := zT_mem (tb6 _ (List.mem_of_getElem? (l := tables_1_6) (i := 108) rfl)) rfl
set_option maxRecDepth 100000 in
theorem wd_1427 : (Jvm.Cond.fieldLink "ReedOraclesModel" (328 : Nat) "ReedOraclesModel" "coughs" "I") ∈ zT := zT_mem (tb6 _ (List.mem_of_getElem? (l := tables_1_6) (i := 109) rfl)) rfl
set_option maxRecDepth 100000 in
theorem wd_1428 : (Jvm.Cond.fieldLink "ReedOraclesModel" (331 : Nat) "ReedOraclesModel" "cold" "I") ∈ zT := zT_mem (tb6 _ (List.mem_of_getElem? (l := tables_1_6) (i := 110) rfl)) rfl
set_option maxRecDepth 100000 in
theorem wd_1429 : (Jvm.Cond.fieldLink "ReedOraclesModel" (334 : Nat) "ReedOraclesModel" "lastNote" "I") ∈ zT := zT_mem (tb6 _ (List.mem_of_getElem? (l := tables_1_6) (i := 111) rfl)) rfl
set_option maxRecDepth 100000 in
theorem wd_1430 : (Jvm.Cond.fieldLink "ReedOraclesModel" (337 : Nat) "ReedOraclesModel" "done" "I") ∈ zT := zT_mem (tb6 _ (List.mem_of_getElem? (l := tables_1_6) (i := 112) rfl)) rfl
set_option maxRecDepth 100000 in
theorem wd_1431 : (Jvm.Cond.fieldLink "ReedOraclesModel" (38 : Nat) "ReedOraclesModel" "wets" "[I") ∈ zT := zT_mem (tb6 _ (List.mem_of_getElem? (l := tables_1_6) (i := 113) rfl)) rfl
set_option maxRecDepth 100000 in
theorem wd_1432 : (Jvm.Cond.fieldLink "ReedOraclesModel" (41 : Nat) "ReedOraclesModel" "keys" "[I") ∈ zT := zT_mem (tb6 _ (List.mem_of_getElem? (l := tables_1_6) (i := 114) rfl)) rfl
set_option maxRecDepth 100000 in
theorem wd_1433 : (Jvm.Cond.fieldLink "ReedOraclesModel" (44 : Nat) "ReedOraclesModel" "played" "[I") ∈ zT := zT_mem (tb6 _ (List.mem_of_getElem? (l := tables_1_6) (i := 115) rfl)) rfl
set_option maxRecDepth 100000 in
theorem wd_1434 : (Jvm.Cond.fieldLink "ReedOraclesModel" (47 : Nat) "ReedOraclesModel" "answered" "[I") ∈ zT := zT_mem (tb6 _ (List.mem_of_getElem? (l := tables_1_6) (i := 116) rfl)) rfl
set_option maxRecDepth 100000 in
theorem wd_1435 : (Jvm.Cond.fieldLink "ReedOraclesModel" (50 : Nat) "ReedOraclesModel" "famed" "[I") ∈ zT := zT_mem (tb6 _ (List.mem_of_getElem? (l := tables_1_6) (i := 117) rfl)) rfl
set_option maxRecDepth 100000 in
theorem wd_1436 : (Jvm.Cond.fieldLink "ReedOraclesModel" (53 : Nat) "ReedOraclesModel" "sung" "[I") ∈ zT := zT_mem (tb6 _ (List.mem_of_getElem? (l := tables_1_6) (i := 118) rfl)) rfl
set_option maxRecDepth 100000 in
theorem wd_1437 : (Jvm.Cond.fieldLink "ReedOraclesModel" (383 : Nat) "ReedOraclesModel" "l0" "I") ∈ zT := zT_mem (tb6 _ (List.mem_of_getElem? (l := tables_1_6) (i := 119) rfl)) rfl
set_option maxRecDepth 100000 in
theorem wd_1438 : (Jvm.Cond.fieldLink "ReedOraclesModel" (56 : Nat) "ReedOraclesModel" "by" "[I") ∈ zT := zT_mem (tb6 _ (List.mem_of_getElem? (l := tables_1_6) (i := 120) rfl)) rfl
set_option maxRecDepth 100000 in
theorem wd_1439 : (Jvm.Cond.fieldLink "ReedOraclesModel" (420 : Nat) "ReedOraclesModel" "x0" "I") ∈ zT := zT_mem (tb6 _ (List.mem_of_getElem? (l := tables_1_6) (i := 121) rfl)) rfl
set_option maxRecDepth 100000 in
theorem wd_1527 : (Jvm.Cond.arrayClass Jvm.ClassFile.FieldType.boolean) ∈ zT := zT_mem (tb6 _ (List.mem_of_getElem? (l := tables_1_6) (i := 209) rfl)) rfl
set_option maxRecDepth 100000 in
theorem wd_1528 : (Jvm.Cond.methodLink "ReedOraclesLaw" (17 : Nat) ({ cls := "ReedOraclesModel", name := "feed", desc := "(IIIII)I" } : Jvm.MethodName)) ∈ zT := zT_mem (tb6 _ (List.mem_of_getElem? (l := tables_1_6) (i := 210) rfl)) rfl
set_option maxRecDepth 100000 in
theorem wd_1529 : (Jvm.Cond.instanceMethod ({ cls := "ReedOraclesModel", name := "feed", desc := "(IIIII)I" } : Jvm.MethodName)) ∈ zT := zT_mem (tb6 _ (List.mem_of_getElem? (l := tables_1_6) (i := 211) rfl)) rfl
set_option maxRecDepth 100000 in
theorem wd_1530 : (Jvm.Cond.selects "ReedOraclesModel" ({ cls := "ReedOraclesModel", name := "feed", desc := "(IIIII)I" } : Jvm.MethodName) ({ cls := "ReedOraclesModel", name := "feed", desc := "(IIIII)I" } : Jvm.MethodName)) ∈ zT := zT_mem (tb6 _ (List.mem_of_getElem? (l := tables_1_6) (i := 212) rfl)) rfl
set_option maxRecDepth 100000 in
theorem wd_1531 : (Jvm.Cond.code ({ cls := "ReedOraclesModel", name := "feed", desc := "(IIIII)I" } : Jvm.MethodName) prog_14_method_3_code (8 : Nat) (Option.some Jvm.ClassFile.FieldType.int)) ∈ zT := zT_mem (tb6 _ (List.mem_of_getElem? (l := tables_1_6) (i := 213) rfl)) rfl
set_option maxRecDepth 100000 in
theorem wd_1532 : (Jvm.Cond.methodLink "ReedOraclesLaw" (22 : Nat) ({ cls := "ReedOraclesModel", name := "end", desc := "(I)I" } : Jvm.MethodName)) ∈ zT := zT_mem (tb6 _ (List.mem_of_getElem? (l := tables_1_6) (i := 214) rfl)) rfl
set_option maxRecDepth 100000 in
theorem wd_1533 : (Jvm.Cond.instanceMethod ({ cls := "ReedOraclesModel", name := "end", desc := "(I)I" } : Jvm.MethodName)) ∈ zT := zT_mem (tb6 _ (List.mem_of_getElem? (l := tables_1_6) (i := 215) rfl)) rfl
set_option maxRecDepth 100000 in
theorem wd_1534 : (Jvm.Cond.selects "ReedOraclesModel" ({ cls := "ReedOraclesModel", name := "end", desc := "(I)I" } : Jvm.MethodName) ({ cls := "ReedOraclesModel", name := "end", desc := "(I)I" } : Jvm.MethodName)) ∈ zT := zT_mem (tb6 _ (List.mem_of_getElem? (l := tables_1_6) (i := 216) rfl)) rfl
set_option maxRecDepth 100000 in
theorem wd_1535 : (Jvm.Cond.code ({ cls := "ReedOraclesModel", name := "end", desc := "(I)I" } : Jvm.MethodName) prog_14_method_4_code (2 : Nat) (Option.some Jvm.ClassFile.FieldType.int)) ∈ zT := zT_mem (tb6 _ (List.mem_of_getElem? (l := tables_1_6) (i := 217) rfl)) rfl
set_option maxRecDepth 100000 in
theorem wd_1536 : (Jvm.Cond.methodLink "ReedOraclesLaw" (27 : Nat) ({ cls := "ReedOraclesModel", name := "text", desc := "(II)I" } : Jvm.MethodName)) ∈ zT := zT_mem (tb6 _ (List.mem_of_getElem? (l := tables_1_6) (i := 218) rfl)) rfl
set_option maxRecDepth 100000 in
theorem wd_1537 : (Jvm.Cond.instanceMethod ({ cls := "ReedOraclesModel", name := "text", desc := "(II)I" } : Jvm.MethodName)) ∈ zT := zT_mem (tb6 _ (List.mem_of_getElem? (l := tables_1_6) (i := 219) rfl)) rfl
set_option maxRecDepth 100000 in
theorem wd_1538 : (Jvm.Cond.selects "ReedOraclesModel" ({ cls := "ReedOraclesModel", name := "text", desc := "(II)I" } : Jvm.MethodName) ({ cls := "ReedOraclesModel", name := "text", desc := "(II)I" } : Jvm.MethodName)) ∈ zT := zT_mem (tb6 _ (List.mem_of_getElem? (l := tables_1_6) (i := 220) rfl)) rfl
set_option maxRecDepth 100000 in
theorem wd_1539 : (Jvm.Cond.code ({ cls := "ReedOraclesModel", name := "text", desc := "(II)I" } : Jvm.MethodName) prog_14_method_26_code (5 : Nat) (Option.some Jvm.ClassFile.FieldType.int)) ∈ zT := zT_mem (tb6 _ (List.mem_of_getElem? (l := tables_1_6) (i := 221) rfl)) rfl
set_option maxRecDepth 100000 in
theorem wd_1540 : (Jvm.Cond.methodLink "ReedOraclesModel" (114 : Nat) ({ cls := "ReedOraclesModel", name := "isIn", desc := "(III)Z" } : Jvm.MethodName)) ∈ zT := zT_mem (tb6 _ (List.mem_of_getElem? (l := tables_1_6) (i := 222) rfl)) rfl
set_option maxRecDepth 100000 in
theorem wd_1541 : (Jvm.Cond.static ({ cls := "ReedOraclesModel", name := "isIn", desc := "(III)Z" } : Jvm.MethodName)) ∈ zT := zT_mem (tb6 _ (List.mem_of_getElem? (l := tables_1_6) (i := 223) rfl)) rfl
set_option maxRecDepth 100000 in
theorem wd_1542 : (Jvm.Cond.code ({ cls := "ReedOraclesModel", name := "isIn", desc := "(III)Z" } : Jvm.MethodName) prog_14_method_2_code (3 : Nat) (Option.some Jvm.ClassFile.FieldType.boolean)) ∈ zT := zT_mem (tb6 _ (List.mem_of_getElem? (l := tables_1_6) (i := 224) rfl)) rfl
set_option maxRecDepth 100000 in
theorem wd_1543 : (Jvm.Cond.methodLink "ReedOraclesModel" (145 : Nat) ({ cls := "ReedOraclesModel", name := "isOf", desc := "(II)Z" } : Jvm.MethodName)) ∈ zT := zT_mem (tb6 _ (List.mem_of_getElem? (l := tables_1_6) (i := 225) rfl)) rfl
set_option maxRecDepth 100000 in
theorem wd_1545 : (Jvm.Cond.instanceMethod ({ cls := "ReedOraclesModel", name := "isOf", desc := "(II)Z" } : Jvm.MethodName)) ∈ zT := zT_mem (tb6 _ (List.mem_of_getElem? (l := tables_1_6) (i := 227) rfl)) rfl
set_option maxRecDepth 100000 in
theorem wd_1546 : (Jvm.Cond.code ({ cls := "ReedOraclesModel", name := "isOf", desc := "(II)Z" } : Jvm.MethodName) prog_14_method_25_code (3 : Nat) (Option.some Jvm.ClassFile.FieldType.boolean)) ∈ zT := zT_mem (tb6 _ (List.mem_of_getElem? (l := tables_1_6) (i := 228) rfl)) rfl
set_option maxRecDepth 100000 in
theorem wd_1547 : (Jvm.Cond.methodLink "ReedOraclesModel" (122 : Nat) ({ cls := "ReedOraclesModel", name := "advance", desc := "()V" } : Jvm.MethodName)) ∈ zT := zT_mem (tb6 _ (List.mem_of_getElem? (l := tables_1_6) (i := 229) rfl)) rfl
set_option maxRecDepth 100000 in
theorem wd_1549 : (Jvm.Cond.instanceMethod ({ cls := "ReedOraclesModel", name := "advance", desc := "()V" } : Jvm.MethodName)) ∈ zT := zT_mem (tb6 _ (List.mem_of_getElem? (l := tables_1_6) (i := 231) rfl)) rfl
set_option maxRecDepth 100000 in
theorem wd_1550 : (Jvm.Cond.code ({ cls := "ReedOraclesModel", name := "advance", desc := "()V" } : Jvm.MethodName) prog_14_method_11_code (4 : Nat) (Option.none : Option Jvm.ClassFile.FieldType)) ∈ zT := zT_mem (tb6 _ (List.mem_of_getElem? (l := tables_1_6) (i := 232) rfl)) rfl
set_option maxRecDepth 100000 in
theorem wd_1551 : (Jvm.Cond.methodLink "ReedOraclesModel" (76 : Nat) ({ cls := "ReedOraclesModel", name := "byteAt", desc := "(I)I" } : Jvm.MethodName)) ∈ zT := zT_mem (tb6 _ (List.mem_of_getElem? (l := tables_1_6) (i := 233) rfl)) rfl
set_option maxRecDepth 100000 in
theorem wd_1553 : (Jvm.Cond.instanceMethod ({ cls := "ReedOraclesModel", name := "byteAt", desc := "(I)I" } : Jvm.MethodName)) ∈ zT := zT_mem (tb6 _ (List.mem_of_getElem? (l := tables_1_6) (i := 235) rfl)) rfl
set_option maxRecDepth 100000 in
theorem wd_1554 : (Jvm.Cond.code ({ cls := "ReedOraclesModel", name := "byteAt", desc := "(I)I" } : Jvm.MethodName) prog_14_method_5_code (2 : Nat) (Option.some Jvm.ClassFile.FieldType.int)) ∈ zT := zT_mem (tb6 _ (List.mem_of_getElem? (l := tables_1_6) (i := 236) rfl)) rfl
set_option maxRecDepth 100000 in
theorem wd_1555 : (Jvm.Cond.methodLink "ReedOraclesModel" (86 : Nat) ({ cls := "ReedOraclesModel", name := "isLetter", desc := "(I)Z" } : Jvm.MethodName)) ∈ zT := zT_mem (tb6 _ (List.mem_of_getElem? (l := tables_1_6) (i := 237) rfl)) rfl
set_option maxRecDepth 100000 in
theorem wd_1556 : (Jvm.Cond.static ({ cls := "ReedOraclesModel", name := "isLetter", desc := "(I)Z" } : Jvm.MethodName)) ∈ zT := zT_mem (tb6 _ (List.mem_of_getElem? (l := tables_1_6) (i := 238) rfl)) rfl
set_option maxRecDepth 100000 in
theorem wd_1557 : (Jvm.Cond.code ({ cls := "ReedOraclesModel", name := "isLetter", desc := "(I)Z" } : Jvm.MethodName) prog_14_method_6_code (1 : Nat) (Option.some Jvm.ClassFile.FieldType.boolean)) ∈ zT := zT_mem (tb6 _ (List.mem_of_getElem? (l := tables_1_6) (i := 239) rfl)) rfl
set_option maxRecDepth 100000 in
theorem wd_1558 : (Jvm.Cond.constantLong "ReedOraclesModel" (90 : Nat) (32 : Int64)) ∈ zT := zT_mem (tb7 _ (List.mem_of_getElem? (l := tables_1_7) (i := 0) rfl)) rfl
set_option maxRecDepth 100000 in
theorem wd_1559 : (Jvm.Cond.constantLong "ReedOraclesModel" (92 : Nat) (96 : Int64)) ∈ zT := zT_mem (tb7 _ (List.mem_of_getElem? (l := tables_1_7) (i := 1) rfl)) rfl
set_option maxRecDepth 100000 in
theorem wd_1560 : (Jvm.Cond.methodLink "ReedOraclesModel" (94 : Nat) ({ cls := "ReedOraclesModel", name := "wordOf", desc := "(J)I" } : Jvm.MethodName)) ∈ zT := zT_mem (tb7 _ (List.mem_of_getElem? (l := tables_1_7) (i := 2) rfl)) rfl
set_option maxRecDepth 100000 in
theorem wd_1561 : (Jvm.Cond.static ({ cls := "ReedOraclesModel", name := "wordOf", desc := "(J)I" } : Jvm.MethodName)) ∈ zT := zT_mem (tb7 _ (List.mem_of_getElem? (l := tables_1_7) (i := 3) rfl)) rfl
set_option maxRecDepth 100000 in
theorem wd_1562 : (Jvm.Cond.code ({ cls := "ReedOraclesModel", name := "wordOf", desc := "(J)I" } : Jvm.MethodName) prog_14_method_10_code (2 : Nat) (Option.some Jvm.ClassFile.FieldType.int)) ∈ zT := zT_mem (tb7 _ (List.mem_of_getElem? (l := tables_1_7) (i := 4) rfl)) rfl
set_option maxRecDepth 100000 in
theorem wd_1563 : (Jvm.Cond.methodLink "ReedOraclesModel" (63 : Nat) ({ cls := "ReedOraclesModel", name := "four", desc := "(IIII)J" } : Jvm.MethodName)) ∈ zT := zT_mem (tb7 _ (List.mem_of_getElem? (l := tables_1_7) (i := 5) rfl)) rfl
set_option maxRecDepth 100000 in
theorem wd_1564 : (Jvm.Cond.static ({ cls := "ReedOraclesModel", name := "four", desc := "(IIII)J" } : Jvm.MethodName)) ∈ zT := zT_mem (tb7 _ (List.mem_of_getElem? (l := tables_1_7) (i := 6) rfl)) rfl
set_option maxRecDepth 100000 in
theorem wd_1565 : (Jvm.Cond.code ({ cls := "ReedOraclesModel", name := "four", desc := "(IIII)J" } : Jvm.MethodName) prog_14_method_8_code (4 : Nat) (Option.some Jvm.ClassFile.FieldType.long)) ∈ zT := zT_mem (tb7 _ (List.mem_of_getElem? (l := tables_1_7) (i := 7) rfl)) rfl
set_option maxRecDepth 100000 in
theorem wd_1566 : (Jvm.Cond.methodLink "ReedOraclesModel" (69 : Nat) ({ cls := "ReedOraclesModel", name := "eight", desc := "(IIIIIIII)J" } : Jvm.MethodName)) ∈ zT := zT_mem (tb7 _ (List.mem_of_getElem? (l := tables_1_7) (i := 8) rfl)) rfl
set_option maxRecDepth 100000 in
theorem wd_1567 : (Jvm.Cond.static ({ cls := "ReedOraclesModel", name := "eight", desc := "(IIIIIIII)J" } : Jvm.MethodName)) ∈ zT := zT_mem (tb7 _ (List.mem_of_getElem? (l := tables_1_7) (i := 9) rfl)) rfl
set_option maxRecDepth 100000 in
theorem wd_1568 : (Jvm.Cond.code ({ cls := "ReedOraclesModel", name := "eight", desc := "(IIIIIIII)J" } : Jvm.MethodName) prog_14_method_9_code (8 : Nat) (Option.some Jvm.ClassFile.FieldType.long)) ∈ zT := zT_mem (tb7 _ (List.mem_of_getElem? (l := tables_1_7) (i := 10) rfl)) rfl
set_option maxRecDepth 100000 in
theorem wd_1569 : (Jvm.Cond.constantLong "ReedOraclesModel" (67 : Nat) (1048576 : Int64)) ∈ zT := zT_mem (tb7 _ (List.mem_of_getElem? (l := tables_1_7) (i := 11) rfl)) rfl
set_option maxRecDepth 100000 in
theorem wd_1570 : (Jvm.Cond.methodLink "ReedOraclesModel" (101 : Nat) ({ cls := "ReedOraclesModel", name := "isDigit", desc := "(I)Z" } : Jvm.MethodName)) ∈ zT := zT_mem (tb7 _ (List.mem_of_getElem? (l := tables_1_7) (i := 12) rfl)) rfl
set_option maxRecDepth 100000 in
theorem wd_1571 : (Jvm.Cond.static ({ cls := "ReedOraclesModel", name := "isDigit", desc := "(I)Z" } : Jvm.MethodName)) ∈ zT := zT_mem (tb7 _ (List.mem_of_getElem? (l := tables_1_7) (i := 13) rfl)) rfl
set_option maxRecDepth 100000 in
theorem wd_1572 : (Jvm.Cond.code ({ cls := "ReedOraclesModel", name := "isDigit", desc := "(I)Z" } : Jvm.MethodName) prog_14_method_7_code (1 : Nat) (Option.some Jvm.ClassFile.FieldType.boolean)) ∈ zT := zT_mem (tb7 _ (List.mem_of_getElem? (l := tables_1_7) (i := 14) rfl)) rfl
set_option maxRecDepth 100000 in
theorem wd_1573 : (Jvm.Cond.methodLink "ReedOraclesModel" (149 : Nat) ({ cls := "ReedOraclesModel", name := "duchyLine", desc := "()V" } : Jvm.MethodName)) ∈ zT := zT_mem (tb7 _ (List.mem_of_getElem? (l := tables_1_7) (i := 15) rfl)) rfl
set_option maxRecDepth 100000 in
theorem wd_1575 : (Jvm.Cond.instanceMethod ({ cls := "ReedOraclesModel", name := "duchyLine", desc := "()V" } : Jvm.MethodName)) ∈ zT := zT_mem (tb7 _ (List.mem_of_getElem? (l := tables_1_7) (i := 17) rfl)) rfl
set_option maxRecDepth 100000 in
theorem wd_1576 : (Jvm.Cond.code ({ cls := "ReedOraclesModel", name := "duchyLine", desc := "()V" } : Jvm.MethodName) prog_14_method_20_code (4 : Nat) (Option.none : Option Jvm.ClassFile.FieldType)) ∈ zT := zT_mem (tb7 _ (List.mem_of_getElem? (l := tables_1_7) (i := 18) rfl)) rfl
set_option maxRecDepth 100000 in
theorem wd_1577 : (Jvm.Cond.methodLink "ReedOraclesModel" (129 : Nat) ({ cls := "ReedOraclesModel", name := "comes", desc := "(I)Z" } : Jvm.MethodName)) ∈ zT := zT_mem (tb7 _ (List.mem_of_getElem? (l := tables_1_7) (i := 19) rfl)) rfl
set_option maxRecDepth 100000 in
theorem wd_1579 : (Jvm.Cond.instanceMethod ({ cls := "ReedOraclesModel", name := "comes", desc := "(I)Z" } : Jvm.MethodName)) ∈ zT := zT_mem (tb7 _ (List.mem_of_getElem? (l := tables_1_7) (i := 21) rfl)) rfl
set_option maxRecDepth 100000 in
theorem wd_1580 : (Jvm.Cond.code ({ cls := "ReedOraclesModel", name := "comes", desc := "(I)Z" } : Jvm.MethodName) prog_14_method_17_code (2 : Nat) (Option.some Jvm.ClassFile.FieldType.boolean)) ∈ zT := zT_mem (tb7 _ (List.mem_of_getElem? (l := tables_1_7) (i := 22) rfl)) rfl
set_option maxRecDepth 100000 in
theorem wd_1581 : (Jvm.Cond.methodLink "ReedOraclesModel" (125 : Nat) ({ cls := "ReedOraclesModel", name := "numbered", desc := "(II)I" } : Jvm.MethodName)) ∈ zT := zT_mem (tb7 _ (List.mem_of_getElem? (l := tables_1_7) (i := 23) rfl)) rfl
set_option maxRecDepth 100000 in
theorem wd_1583 : (Jvm.Cond.instanceMethod ({ cls := "ReedOraclesModel", name := "numbered", desc := "(II)I" } : Jvm.MethodName)) ∈ zT := zT_mem (tb7 _ (List.mem_of_getElem? (l := tables_1_7) (i := 25) rfl)) rfl
set_option maxRecDepth 100000 in
theorem wd_1584 : (Jvm.Cond.code ({ cls := "ReedOraclesModel", name := "numbered", desc := "(II)I" } : Jvm.MethodName) prog_14_method_14_code (4 : Nat) (Option.some Jvm.ClassFile.FieldType.int)) ∈ zT := zT_mem (tb7 _ (List.mem_of_getElem? (l := tables_1_7) (i := 26) rfl)) rfl
set_option maxRecDepth 100000 in
theorem wd_1585 : (Jvm.Cond.methodLink "ReedOraclesModel" (111 : Nat) ({ cls := "ReedOraclesModel", name := "ends", desc := "()V" } : Jvm.MethodName)) ∈ zT := zT_mem (tb7 _ (List.mem_of_getElem? (l := tables_1_7) (i := 27) rfl)) rfl
set_option maxRecDepth 100000 in
theorem wd_1587 : (Jvm.Cond.instanceMethod ({ cls := "ReedOraclesModel", name := "ends", desc := "()V" } : Jvm.MethodName)) ∈ zT := zT_mem (tb7 _ (List.mem_of_getElem? (l := tables_1_7) (i := 29) rfl)) rfl
set_option maxRecDepth 100000 in
theorem wd_1588 : (Jvm.Cond.code ({ cls := "ReedOraclesModel", name := "ends", desc := "()V" } : Jvm.MethodName) prog_14_method_12_code (1 : Nat) (Option.none : Option Jvm.ClassFile.FieldType)) ∈ zT := zT_mem (tb7 _ (List.mem_of_getElem? (l := tables_1_7) (i := 30) rfl)) rfl
set_option maxRecDepth 100000 in
theorem wd_1589 : (Jvm.Cond.methodLink "ReedOraclesModel" (118 : Nat) ({ cls := "ReedOraclesModel", name := "also", desc := "(II)V" } : Jvm.MethodName)) ∈ zT := zT_mem (tb7 _ (List.mem_of_getElem? (l := tables_1_7) (i := 31) rfl)) rfl
set_option maxRecDepth 100000 in
theorem wd_1591 : (Jvm.Cond.instanceMethod ({ cls := "ReedOraclesModel", name := "also", desc := "(II)V" } : Jvm.MethodName)) ∈ zT := zT_mem (tb7 _ (List.mem_of_getElem? (l := tables_1_7) (i := 33) rfl)) rfl
set_option maxRecDepth 100000 in
theorem wd_1592 : (Jvm.Cond.code ({ cls := "ReedOraclesModel", name := "also", desc := "(II)V" } : Jvm.MethodName) prog_14_method_13_code (3 : Nat) (Option.none : Option Jvm.ClassFile.FieldType)) ∈ zT := zT_mem (tb7 _ (List.mem_of_getElem? (l := tables_1_7) (i := 34) rfl)) rfl
set_option maxRecDepth 100000 in
theorem wd_1593 : (Jvm.Cond.methodLink "ReedOraclesModel" (132 : Nat) ({ cls := "ReedOraclesModel", name := "wordIn", desc := "(II)I" } : Jvm.MethodName)) ∈ zT := zT_mem (tb7 _ (List.mem_of_getElem? (l := tables_1_7) (i := 35) rfl)) rfl
set_option maxRecDepth 100000 in
theorem wd_1595 : (Jvm.Cond.instanceMethod ({ cls := "ReedOraclesModel", name := "wordIn", desc := "(II)I" } : Jvm.MethodName)) ∈ zT := zT_mem (tb7 _ (List.mem_of_getElem? (l := tables_1_7) (i := 37) rfl)) rfl
set_option maxRecDepth 100000 in
theorem wd_1596 : (Jvm.Cond.code ({ cls := "ReedOraclesModel", name := "wordIn", desc := "(II)I" } : Jvm.MethodName) prog_14_method_15_code (4 : Nat) (Option.some Jvm.ClassFile.FieldType.int)) ∈ zT := zT_mem (tb7 _ (List.mem_of_getElem? (l := tables_1_7) (i := 38) rfl)) rfl
set_option maxRecDepth 100000 in
theorem wd_1597 : (Jvm.Cond.methodLink "ReedOraclesModel" (135 : Nat) ({ cls := "ReedOraclesModel", name := "pairTold", desc := "(IIIIIII)V" } : Jvm.MethodName)) ∈ zT := zT_mem (tb7 _ (List.mem_of_getElem? (l := tables_1_7) (i := 39) rfl)) rfl
set_option maxRecDepth 100000 in
theorem wd_1599 : (Jvm.Cond.instanceMethod ({ cls := "ReedOraclesModel", name := "pairTold", desc := "(IIIIIII)V" } : Jvm.MethodName)) ∈ zT := zT_mem (tb7 _ (List.mem_of_getElem? (l := tables_1_7) (i := 41) rfl)) rfl
set_option maxRecDepth 100000 in
theorem wd_1600 : (Jvm.Cond.code ({ cls := "ReedOraclesModel", name := "pairTold", desc := "(IIIIIII)V" } : Jvm.MethodName) prog_14_method_19_code (10 : Nat) (Option.none : Option Jvm.ClassFile.FieldType)) ∈ zT := zT_mem (tb7 _ (List.mem_of_getElem? (l := tables_1_7) (i := 42) rfl)) rfl
set_option maxRecDepth 100000 in
theorem wd_1601 : (Jvm.Cond.methodLink "ReedOraclesModel" (139 : Nat) ({ cls := "ReedOraclesModel", name := "endsLine", desc := "()V" } : Jvm.MethodName)) ∈ zT := zT_mem (tb7 _ (List.mem_of_getElem? (l := tables_1_7) (i := 43) rfl)) rfl
set_option maxRecDepth 100000 in
theorem wd_1603 : (Jvm.Cond.instanceMethod ({ cls := "ReedOraclesModel", name := "endsLine", desc := "()V" } : Jvm.MethodName)) ∈ zT := zT_mem (tb7 _ (List.mem_of_getElem? (l := tables_1_7) (i := 45) rfl)) rfl
set_option maxRecDepth 100000 in
theorem wd_1604 : (Jvm.Cond.code ({ cls := "ReedOraclesModel", name := "endsLine", desc := "()V" } : Jvm.MethodName) prog_14_method_16_code (1 : Nat) (Option.none : Option Jvm.ClassFile.FieldType)) ∈ zT := zT_mem (tb7 _ (List.mem_of_getElem? (l := tables_1_7) (i := 46) rfl)) rfl
set_option maxRecDepth 100000 in
theorem wd_1605 : (Jvm.Cond.methodLink "ReedOraclesModel" (152 : Nat) ({ cls := "ReedOraclesModel", name := "yearLine", desc := "()V" } : Jvm.MethodName)) ∈ zT := zT_mem (tb7 _ (List.mem_of_getElem? (l := tables_1_7) (i := 47) rfl)) rfl
set_option maxRecDepth 100000 in
theorem wd_1607 : (Jvm.Cond.instanceMethod ({ cls := "ReedOraclesModel", name := "yearLine", desc := "()V" } : Jvm.MethodName)) ∈ zT := zT_mem (tb7 _ (List.mem_of_getElem? (l := tables_1_7) (i := 49) rfl)) rfl
set_option maxRecDepth 100000 in
theorem wd_1608 : (Jvm.Cond.code ({ cls := "ReedOraclesModel", name := "yearLine", desc := "()V" } : Jvm.MethodName) prog_14_method_21_code (10 : Nat) (Option.none : Option Jvm.ClassFile.FieldType)) ∈ zT := zT_mem (tb7 _ (List.mem_of_getElem? (l := tables_1_7) (i := 50) rfl)) rfl
set_option maxRecDepth 100000 in
theorem wd_1609 : (Jvm.Cond.methodLink "ReedOraclesModel" (142 : Nat) ({ cls := "ReedOraclesModel", name := "unlike", desc := "(II)I" } : Jvm.MethodName)) ∈ zT := zT_mem (tb7 _ (List.mem_of_getElem? (l := tables_1_7) (i := 51) rfl)) rfl
set_option maxRecDepth 100000 in
theorem wd_1611 : (Jvm.Cond.instanceMethod ({ cls := "ReedOraclesModel", name := "unlike", desc := "(II)I" } : Jvm.MethodName)) ∈ zT := zT_mem (tb7 _ (List.mem_of_getElem? (l := tables_1_7) (i := 53) rfl)) rfl
set_option maxRecDepth 100000 in
theorem wd_1612 : (Jvm.Cond.code ({ cls := "ReedOraclesModel", name := "unlike", desc := "(II)I" } : Jvm.MethodName) prog_14_method_18_code (6 : Nat) (Option.some Jvm.ClassFile.FieldType.int)) ∈ zT := zT_mem (tb7 _ (List.mem_of_getElem? (l := tables_1_7) (i := 54) rfl)) rfl
set_option maxRecDepth 100000 in
theorem wd_1613 : (Jvm.Cond.methodLink "ReedOraclesModel" (155 : Nat) ({ cls := "ReedOraclesModel", name := "logLine", desc := "()V" } : Jvm.MethodName)) ∈ zT := zT_mem (tb7 _ (List.mem_of_getElem? (l := tables_1_7) (i := 55) rfl)) rfl
set_option maxRecDepth 100000 in
theorem wd_1615 : (Jvm.Cond.instanceMethod ({ cls := "ReedOraclesModel", name := "logLine", desc := "()V" } : Jvm.MethodName)) ∈ zT := zT_mem (tb7 _ (List.mem_of_getElem? (l := tables_1_7) (i := 57) rfl)) rfl
set_option maxRecDepth 100000 in
theorem wd_1616 : (Jvm.Cond.code ({ cls := "ReedOraclesModel", name := "logLine", desc := "()V" } : Jvm.MethodName) prog_14_method_22_code (7 : Nat) (Option.none : Option Jvm.ClassFile.FieldType)) ∈ zT := zT_mem (tb7 _ (List.mem_of_getElem? (l := tables_1_7) (i := 58) rfl)) rfl
set_option maxRecDepth 100000 in
theorem wd_1617 : (Jvm.Cond.methodLink "ReedOraclesModel" (158 : Nat) ({ cls := "ReedOraclesModel", name := "sizeOf", desc := "(I)I" } : Jvm.MethodName)) ∈ zT := zT_mem (tb7 _ (List.mem_of_getElem? (l := tables_1_7) (i := 59) rfl)) rfl
set_option maxRecDepth 100000 in
theorem wd_1618 : (Jvm.Cond.static ({ cls := "ReedOraclesModel", name := "sizeOf", desc := "(I)I" } : Jvm.MethodName)) ∈ zT := zT_mem (tb7 _ (List.mem_of_getElem? (l := tables_1_7) (i := 60) rfl)) rfl
set_option maxRecDepth 100000 in
theorem wd_1619 : (Jvm.Cond.code ({ cls := "ReedOraclesModel", name := "sizeOf", desc := "(I)I" } : Jvm.MethodName) prog_14_method_24_code (1 : Nat) (Option.some Jvm.ClassFile.FieldType.int)) ∈ zT := zT_mem (tb7 _ (List.mem_of_getElem? (l := tables_1_7) (i := 61) rfl)) rfl
set_option maxRecDepth 100000 in
theorem wd_1620 : (Jvm.Cond.methodLink "ReedOraclesModel" (161 : Nat) ({ cls := "ReedOraclesModel", name := "placeOf", desc := "(II)I" } : Jvm.MethodName)) ∈ zT := zT_mem (tb7 _ (List.mem_of_getElem? (l := tables_1_7) (i := 62) rfl)) rfl
set_option maxRecDepth 100000 in
theorem wd_1621 : (Jvm.Cond.static ({ cls := "ReedOraclesModel", name := "placeOf", desc := "(II)I" } : Jvm.MethodName)) ∈ zT := zT_mem (tb7 _ (List.mem_of_getElem? (l := tables_1_7) (i := 63) rfl)) rfl
set_option maxRecDepth 100000 in
theorem wd_1622 : (Jvm.Cond.code ({ cls := "ReedOraclesModel", name := "placeOf", desc := "(II)I" } : Jvm.MethodName) prog_14_method_23_code (2 : Nat) (Option.some Jvm.ClassFile.FieldType.int)) ∈ zT := zT_mem (tb7 _ (List.mem_of_getElem? (l := tables_1_7) (i := 64) rfl)) rfl
set_option maxRecDepth 100000 in
theorem wd_1623 : (Jvm.Cond.methodLink "ReedOraclesLaw" (31 : Nat) ({ cls := "ReedOraclesModel", name := "fault", desc := "(I)I" } : Jvm.MethodName)) ∈ zT := zT_mem (tb7 _ (List.mem_of_getElem? (l := tables_1_7) (i := 65) rfl)) rfl
set_option maxRecDepth 100000 in
theorem wd_1624 : (Jvm.Cond.instanceMethod ({ cls := "ReedOraclesModel", name := "fault", desc := "(I)I" } : Jvm.MethodName)) ∈ zT := zT_mem (tb7 _ (List.mem_of_getElem? (l := tables_1_7) (i := 66) rfl)) rfl
set_option maxRecDepth 100000 in
theorem wd_1625 : (Jvm.Cond.selects "ReedOraclesModel" ({ cls := "ReedOraclesModel", name := "fault", desc := "(I)I" } : Jvm.MethodName) ({ cls := "ReedOraclesModel", name := "fault", desc := "(I)I" } : Jvm.MethodName)) ∈ zT := zT_mem (tb7 _ (List.mem_of_getElem? (l := tables_1_7) (i := 67) rfl)) rfl
set_option maxRecDepth 100000 in
theorem wd_1626 : (Jvm.Cond.code ({ cls := "ReedOraclesModel", name := "fault", desc := "(I)I" } : Jvm.MethodName) prog_14_method_27_code (2 : Nat) (Option.some Jvm.ClassFile.FieldType.int)) ∈ zT := zT_mem (tb7 _ (List.mem_of_getElem? (l := tables_1_7) (i := 68) rfl)) rfl
set_option maxRecDepth 100000 in
theorem wd_1627 : (Jvm.Cond.methodLink "ReedOraclesLaw" (35 : Nat) ({ cls := "ReedOraclesModel", name := "duchy", desc := "(II)I" } : Jvm.MethodName)) ∈ zT := zT_mem (tb7 _ (List.mem_of_getElem? (l := tables_1_7) (i := 69) rfl)) rfl
set_option maxRecDepth 100000 in
theorem wd_1628 : (Jvm.Cond.instanceMethod ({ cls := "ReedOraclesModel", name := "duchy", desc := "(II)I" } : Jvm.MethodName)) ∈ zT := zT_mem (tb7 _ (List.mem_of_getElem? (l := tables_1_7) (i := 70) rfl)) rfl
set_option maxRecDepth 100000 in
theorem wd_1629 : (Jvm.Cond.selects "ReedOraclesModel" ({ cls := "ReedOraclesModel", name := "duchy", desc := "(II)I" } : Jvm.MethodName) ({ cls := "ReedOraclesModel", name := "duchy", desc := "(II)I" } : Jvm.MethodName)) ∈ zT := zT_mem (tb7 _ (List.mem_of_getElem? (l := tables_1_7) (i := 71) rfl)) rfl
set_option maxRecDepth 100000 in
theorem wd_1630 : (Jvm.Cond.code ({ cls := "ReedOraclesModel", name := "duchy", desc := "(II)I" } : Jvm.MethodName) prog_14_method_37_code (4 : Nat) (Option.some Jvm.ClassFile.FieldType.int)) ∈ zT := zT_mem (tb7 _ (List.mem_of_getElem? (l := tables_1_7) (i := 72) rfl)) rfl
set_option maxRecDepth 100000 in
theorem wd_1631 : (Jvm.Cond.methodLink "ReedOraclesModel" (176 : Nat) ({ cls := "ReedOraclesModel", name := "isDuchy", desc := "(I)Z" } : Jvm.MethodName)) ∈ zT := zT_mem (tb7 _ (List.mem_of_getElem? (l := tables_1_7) (i := 73) rfl)) rfl
set_option maxRecDepth 100000 in
theorem wd_1633 : (Jvm.Cond.instanceMethod ({ cls := "ReedOraclesModel", name := "isDuchy", desc := "(I)Z" } : Jvm.MethodName)) ∈ zT := zT_mem (tb7 _ (List.mem_of_getElem? (l := tables_1_7) (i := 75) rfl)) rfl
set_option maxRecDepth 100000 in
theorem wd_1634 : (Jvm.Cond.code ({ cls := "ReedOraclesModel", name := "isDuchy", desc := "(I)Z" } : Jvm.MethodName) prog_14_method_28_code (2 : Nat) (Option.some Jvm.ClassFile.FieldType.boolean)) ∈ zT := zT_mem (tb7 _ (List.mem_of_getElem? (l := tables_1_7) (i := 76) rfl)) rfl
set_option maxRecDepth 100000 in
theorem wd_1635 : (Jvm.Cond.methodLink "ReedOraclesModel" (179 : Nat) ({ cls := "ReedOraclesModel", name := "isReed", desc := "(I)Z" } : Jvm.MethodName)) ∈ zT := zT_mem (tb7 _ (List.mem_of_getElem? (l := tables_1_7) (i := 77) rfl)) rfl
set_option maxRecDepth 100000 in
theorem wd_1637 : (Jvm.Cond.instanceMethod ({ cls := "ReedOraclesModel", name := "isReed", desc := "(I)Z" } : Jvm.MethodName)) ∈ zT := zT_mem (tb7 _ (List.mem_of_getElem? (l := tables_1_7) (i := 79) rfl)) rfl
set_option maxRecDepth 100000 in
theorem wd_1638 : (Jvm.Cond.code ({ cls := "ReedOraclesModel", name := "isReed", desc := "(I)Z" } : Jvm.MethodName) prog_14_method_29_code (2 : Nat) (Option.some Jvm.ClassFile.FieldType.boolean)) ∈ zT := zT_mem (tb7 _ (List.mem_of_getElem? (l := tables_1_7) (i := 80) rfl)) rfl
set_option maxRecDepth 100000 in
theorem wd_1639 : (Jvm.Cond.methodLink "ReedOraclesModel" (182 : Nat) ({ cls := "ReedOraclesModel", name := "wetOf", desc := "(I)I" } : Jvm.MethodName)) ∈ zT := zT_mem (tb7 _ (List.mem_of_getElem? (l := tables_1_7) (i := 81) rfl)) rfl
set_option maxRecDepth 100000 in
theorem wd_1641 : (Jvm.Cond.instanceMethod ({ cls := "ReedOraclesModel", name := "wetOf", desc := "(I)I" } : Jvm.MethodName)) ∈ zT := zT_mem (tb7 _ (List.mem_of_getElem? (l := tables_1_7) (i := 83) rfl)) rfl
set_option maxRecDepth 100000 in
theorem wd_1642 : (Jvm.Cond.code ({ cls := "ReedOraclesModel", name := "wetOf", desc := "(I)I" } : Jvm.MethodName) prog_14_method_32_code (2 : Nat) (Option.some Jvm.ClassFile.FieldType.int)) ∈ zT := zT_mem (tb7 _ (List.mem_of_getElem? (l := tables_1_7) (i := 84) rfl)) rfl
set_option maxRecDepth 100000 in
theorem wd_1643 : (Jvm.Cond.methodLink "ReedOraclesModel" (185 : Nat) ({ cls := "ReedOraclesModel", name := "keyOf", desc := "(I)I" } : Jvm.MethodName)) ∈ zT := zT_mem (tb7 _ (List.mem_of_getElem? (l := tables_1_7) (i := 85) rfl)) rfl
set_option maxRecDepth 100000 in
theorem wd_1645 : (Jvm.Cond.instanceMethod ({ cls := "ReedOraclesModel", name := "keyOf", desc := "(I)I" } : Jvm.MethodName)) ∈ zT := zT_mem (tb7 _ (List.mem_of_getElem? (l := tables_1_7) (i := 87) rfl)) rfl
set_option maxRecDepth 100000 in
theorem wd_1646 : (Jvm.Cond.code ({ cls := "ReedOraclesModel", name := "keyOf", desc := "(I)I" } : Jvm.MethodName) prog_14_method_33_code (2 : Nat) (Option.some Jvm.ClassFile.FieldType.int)) ∈ zT := zT_mem (tb7 _ (List.mem_of_getElem? (l := tables_1_7) (i := 88) rfl)) rfl
set_option maxRecDepth 100000 in
theorem wd_1647 : (Jvm.Cond.methodLink "ReedOraclesModel" (188 : Nat) ({ cls := "ReedOraclesModel", name := "isPlayer", desc := "(I)Z" } : Jvm.MethodName)) ∈ zT := zT_mem (tb7 _ (List.mem_of_getElem? (l := tables_1_7) (i := 89) rfl)) rfl
set_option maxRecDepth 100000 in
theorem wd_1649 : (Jvm.Cond.instanceMethod ({ cls := "ReedOraclesModel", name := "isPlayer", desc := "(I)Z" } : Jvm.MethodName)) ∈ zT := zT_mem (tb7 _ (List.mem_of_getElem? (l := tables_1_7) (i := 91) rfl)) rfl
set_option maxRecDepth 100000 in
theorem wd_1650 : (Jvm.Cond.code ({ cls := "ReedOraclesModel", name := "isPlayer", desc := "(I)Z" } : Jvm.MethodName) prog_14_method_30_code (2 : Nat) (Option.some Jvm.ClassFile.FieldType.boolean)) ∈ zT := zT_mem (tb7 _ (List.mem_of_getElem? (l := tables_1_7) (i := 92) rfl)) rfl
set_option maxRecDepth 100000 in
theorem wd_1651 : (Jvm.Cond.methodLink "ReedOraclesModel" (191 : Nat) ({ cls := "ReedOraclesModel", name := "breathOf", desc := "(I)I" } : Jvm.MethodName)) ∈ zT := zT_mem (tb7 _ (List.mem_of_getElem? (l := tables_1_7) (i := 93) rfl)) rfl
set_option maxRecDepth 100000 in
theorem wd_1653 : (Jvm.Cond.instanceMethod ({ cls := "ReedOraclesModel", name := "breathOf", desc := "(I)I" } : Jvm.MethodName)) ∈ zT := zT_mem (tb7 _ (List.mem_of_getElem? (l := tables_1_7) (i := 95) rfl)) rfl
set_option maxRecDepth 100000 in
theorem wd_1654 : (Jvm.Cond.code ({ cls := "ReedOraclesModel", name := "breathOf", desc := "(I)I" } : Jvm.MethodName) prog_14_method_34_code (2 : Nat) (Option.some Jvm.ClassFile.FieldType.int)) ∈ zT := zT_mem (tb7 _ (List.mem_of_getElem? (l := tables_1_7) (i := 96) rfl)) rfl
set_option maxRecDepth 100000 in
theorem wd_1655 : (Jvm.Cond.methodLink "ReedOraclesModel" (194 : Nat) ({ cls := "ReedOraclesModel", name := "isQuestion", desc := "(I)Z" } : Jvm.MethodName)) ∈ zT := zT_mem (tb7 _ (List.mem_of_getElem? (l := tables_1_7) (i := 97) rfl)) rfl
set_option maxRecDepth 100000 in
theorem wd_1657 : (Jvm.Cond.instanceMethod ({ cls := "ReedOraclesModel", name := "isQuestion", desc := "(I)Z" } : Jvm.MethodName)) ∈ zT := zT_mem (tb7 _ (List.mem_of_getElem? (l := tables_1_7) (i := 99) rfl)) rfl
set_option maxRecDepth 100000 in
theorem wd_1658 : (Jvm.Cond.code ({ cls := "ReedOraclesModel", name := "isQuestion", desc := "(I)Z" } : Jvm.MethodName) prog_14_method_31_code (2 : Nat) (Option.some Jvm.ClassFile.FieldType.boolean)) ∈ zT := zT_mem (tb7 _ (List.mem_of_getElem? (l := tables_1_7) (i := 100) rfl)) rfl
set_option maxRecDepth 100000 in
theorem wd_1659 : (Jvm.Cond.methodLink "ReedOraclesModel" (197 : Nat) ({ cls := "ReedOraclesModel", name := "depthOf", desc := "(I)I" } : Jvm.MethodName)) ∈ zT := zT_mem (tb7 _ (List.mem_of_getElem? (l := tables_1_7) (i := 101) rfl)) rfl
set_option maxRecDepth 100000 in
theorem wd_1661 : (Jvm.Cond.instanceMethod ({ cls := "ReedOraclesModel", name := "depthOf", desc := "(I)I" } : Jvm.MethodName)) ∈ zT := zT_mem (tb7 _ (List.mem_of_getElem? (l := tables_1_7) (i := 103) rfl)) rfl
set_option maxRecDepth 100000 in
theorem wd_1662 : (Jvm.Cond.code ({ cls := "ReedOraclesModel", name := "depthOf", desc := "(I)I" } : Jvm.MethodName) prog_14_method_35_code (2 : Nat) (Option.some Jvm.ClassFile.FieldType.int)) ∈ zT := zT_mem (tb7 _ (List.mem_of_getElem? (l := tables_1_7) (i := 104) rfl)) rfl
set_option maxRecDepth 100000 in
theorem wd_1663 : (Jvm.Cond.methodLink "ReedOraclesModel" (200 : Nat) ({ cls := "ReedOraclesModel", name := "kindOf", desc := "(I)I" } : Jvm.MethodName)) ∈ zT := zT_mem (tb7 _ (List.mem_of_getElem? (l := tables_1_7) (i := 105) rfl)) rfl
set_option maxRecDepth 100000 in
theorem wd_1665 : (Jvm.Cond.instanceMethod ({ cls := "ReedOraclesModel", name := "kindOf", desc := "(I)I" } : Jvm.MethodName)) ∈ zT := zT_mem (tb7 _ (List.mem_of_getElem? (l := tables_1_7) (i := 107) rfl)) rfl
set_option maxRecDepth 100000 in
theorem wd_1666 : (Jvm.Cond.code ({ cls := "ReedOraclesModel", name := "kindOf", desc := "(I)I" } : Jvm.MethodName) prog_14_method_36_code (2 : Nat) (Option.some Jvm.ClassFile.FieldType.int)) ∈ zT := zT_mem (tb7 _ (List.mem_of_getElem? (l := tables_1_7) (i := 108) rfl)) rfl
set_option maxRecDepth 100000 in
theorem wd_1667 : (Jvm.Cond.methodLink "ReedOraclesLaw" (40 : Nat) ({ cls := "ReedOraclesModel", name := "note", desc := "(IIIIZ)I" } : Jvm.MethodName)) ∈ zT := zT_mem (tb7 _ (List.mem_of_getElem? (l := tables_1_7) (i := 109) rfl)) rfl
set_option maxRecDepth 100000 in
theorem wd_1668 : (Jvm.Cond.instanceMethod ({ cls := "ReedOraclesModel", name := "note", desc := "(IIIIZ)I" } : Jvm.MethodName)) ∈ zT := zT_mem (tb7 _ (List.mem_of_getElem? (l := tables_1_7) (i := 110) rfl)) rfl
set_option maxRecDepth 100000 in
theorem wd_1669 : (Jvm.Cond.selects "ReedOraclesModel" ({ cls := "ReedOraclesModel", name := "note", desc := "(IIIIZ)I" } : Jvm.MethodName) ({ cls := "ReedOraclesModel", name := "note", desc := "(IIIIZ)I" } : Jvm.MethodName)) ∈ zT := zT_mem (tb7 _ (List.mem_of_getElem? (l := tables_1_7) (i := 111) rfl)) rfl
set_option maxRecDepth 100000 in
theorem wd_1670 : (Jvm.Cond.code ({ cls := "ReedOraclesModel", name := "note", desc := "(IIIIZ)I" } : Jvm.MethodName) prog_14_method_43_code (6 : Nat) (Option.some Jvm.ClassFile.FieldType.int)) ∈ zT := zT_mem (tb7 _ (List.mem_of_getElem? (l := tables_1_7) (i := 112) rfl)) rfl
set_option maxRecDepth 100000 in
theorem wd_1671 : (Jvm.Cond.methodLink "ReedOraclesModel" (218 : Nat) ({ cls := "ReedOraclesModel", name := "areThree", desc := "(IIII)Z" } : Jvm.MethodName)) ∈ zT := zT_mem (tb7 _ (List.mem_of_getElem? (l := tables_1_7) (i := 113) rfl)) rfl
set_option maxRecDepth 100000 in
theorem wd_1673 : (Jvm.Cond.instanceMethod ({ cls := "ReedOraclesModel", name := "areThree", desc := "(IIII)Z" } : Jvm.MethodName)) ∈ zT := zT_mem (tb7 _ (List.mem_of_getElem? (l := tables_1_7) (i := 115) rfl)) rfl
set_option maxRecDepth 100000 in
theorem wd_1674 : (Jvm.Cond.code ({ cls := "ReedOraclesModel", name := "areThree", desc := "(IIII)Z" } : Jvm.MethodName) prog_14_method_42_code (5 : Nat) (Option.some Jvm.ClassFile.FieldType.boolean)) ∈ zT := zT_mem (tb7 _ (List.mem_of_getElem? (l := tables_1_7) (i := 116) rfl)) rfl
set_option maxRecDepth 100000 in
theorem wd_1675 : (Jvm.Cond.methodLink "ReedOraclesModel" (222 : Nat) ({ cls := "ReedOraclesModel", name := "lays", desc := "(I)V" } : Jvm.MethodName)) ∈ zT := zT_mem (tb7 _ (List.mem_of_getElem? (l := tables_1_7) (i := 117) rfl)) rfl
set_option maxRecDepth 100000 in
theorem wd_1677 : (Jvm.Cond.instanceMethod ({ cls := "ReedOraclesModel", name := "lays", desc := "(I)V" } : Jvm.MethodName)) ∈ zT := zT_mem (tb7 _ (List.mem_of_getElem? (l := tables_1_7) (i := 119) rfl)) rfl
set_option maxRecDepth 100000 in
theorem wd_1678 : (Jvm.Cond.code ({ cls := "ReedOraclesModel", name := "lays", desc := "(I)V" } : Jvm.MethodName) prog_14_method_38_code (2 : Nat) (Option.none : Option Jvm.ClassFile.FieldType)) ∈ zT := zT_mem (tb7 _ (List.mem_of_getElem? (l := tables_1_7) (i := 120) rfl)) rfl
set_option maxRecDepth 100000 in
theorem wd_1679 : (Jvm.Cond.methodLink "ReedOraclesModel" (226 : Nat) ({ cls := "ReedOraclesModel", name := "answerOf", desc := "(II)I" } : Jvm.MethodName)) ∈ zT := zT_mem (tb7 _ (List.mem_of_getElem? (l := tables_1_7) (i := 121) rfl)) rfl
set_option maxRecDepth 100000 in
theorem wd_1681 : (Jvm.Cond.instanceMethod ({ cls := "ReedOraclesModel", name := "answerOf", desc := "(II)I" } : Jvm.MethodName)) ∈ zT := zT_mem (tb7 _ (List.mem_of_getElem? (l := tables_1_7) (i := 123) rfl)) rfl
set_option maxRecDepth 100000 in
theorem wd_1682 : (Jvm.Cond.code ({ cls := "ReedOraclesModel", name := "answerOf", desc := "(II)I" } : Jvm.MethodName) prog_14_method_41_code (3 : Nat) (Option.some Jvm.ClassFile.FieldType.int)) ∈ zT := zT_mem (tb7 _ (List.mem_of_getElem? (l := tables_1_7) (i := 124) rfl)) rfl
set_option maxRecDepth 100000 in
theorem wd_1683 : (Jvm.Cond.methodLink "ReedOraclesModel" (212 : Nat) ({ cls := "ReedOraclesModel", name := "noteOf", desc := "(II)I" } : Jvm.MethodName)) ∈ zT := zT_mem (tb7 _ (List.mem_of_getElem? (l := tables_1_7) (i := 125) rfl)) rfl
set_option maxRecDepth 100000 in
theorem wd_1685 : (Jvm.Cond.instanceMethod ({ cls := "ReedOraclesModel", name := "noteOf", desc := "(II)I" } : Jvm.MethodName)) ∈ zT := zT_mem (tb7 _ (List.mem_of_getElem? (l := tables_1_7) (i := 127) rfl)) rfl
set_option maxRecDepth 100000 in
theorem wd_1686 : (Jvm.Cond.code ({ cls := "ReedOraclesModel", name := "noteOf", desc := "(II)I" } : Jvm.MethodName) prog_14_method_39_code (3 : Nat) (Option.some Jvm.ClassFile.FieldType.int)) ∈ zT := zT_mem (tb7 _ (List.mem_of_getElem? (l := tables_1_7) (i := 128) rfl)) rfl
set_option maxRecDepth 100000 in
theorem wd_1687 : (Jvm.Cond.methodLink "ReedOraclesModel" (215 : Nat) ({ cls := "ReedOraclesModel", name := "meant", desc := "(I)I" } : Jvm.MethodName)) ∈ zT := zT_mem (tb7 _ (List.mem_of_getElem? (l := tables_1_7) (i := 129) rfl)) rfl
set_option maxRecDepth 100000 in
theorem wd_1689 : (Jvm.Cond.instanceMethod ({ cls := "ReedOraclesModel", name := "meant", desc := "(I)I" } : Jvm.MethodName)) ∈ zT := zT_mem (tb7 _ (List.mem_of_getElem? (l := tables_1_7) (i := 131) rfl)) rfl
set_option maxRecDepth 100000 in
theorem wd_1690 : (Jvm.Cond.code ({ cls := "ReedOraclesModel", name := "meant", desc := "(I)I" } : Jvm.MethodName) prog_14_method_40_code (2 : Nat) (Option.some Jvm.ClassFile.FieldType.int)) ∈ zT := zT_mem (tb7 _ (List.mem_of_getElem? (l := tables_1_7) (i := 132) rfl)) rfl
set_option maxRecDepth 100000 in
theorem wd_1691 : (Jvm.Cond.methodLink "ReedOraclesLaw" (59 : Nat) ({ cls := "ReedOraclesModel", name := "ready", desc := "(IIIIII)I" } : Jvm.MethodName)) ∈ zT := zT_mem (tb7 _ (List.mem_of_getElem? (l := tables_1_7) (i := 133) rfl)) rfl
set_option maxRecDepth 100000 in
theorem wd_1692 : (Jvm.Cond.instanceMethod ({ cls := "ReedOraclesModel", name := "ready", desc := "(IIIIII)I" } : Jvm.MethodName)) ∈ zT := zT_mem (tb7 _ (List.mem_of_getElem? (l := tables_1_7) (i := 134) rfl)) rfl
set_option maxRecDepth 100000 in
theorem wd_1693 : (Jvm.Cond.selects "ReedOraclesModel" ({ cls := "ReedOraclesModel", name := "ready", desc := "(IIIIII)I" } : Jvm.MethodName) ({ cls := "ReedOraclesModel", name := "ready", desc := "(IIIIII)I" } : Jvm.MethodName)) ∈ zT := zT_mem (tb7 _ (List.mem_of_getElem? (l := tables_1_7) (i := 135) rfl)) rfl
set_option maxRecDepth 100000 in
theorem wd_1694 : (Jvm.Cond.code ({ cls := "ReedOraclesModel", name := "ready", desc := "(IIIIII)I" } : Jvm.MethodName) prog_14_method_46_code (10 : Nat) (Option.some Jvm.ClassFile.FieldType.int)) ∈ zT := zT_mem (tb7 _ (List.mem_of_getElem? (l := tables_1_7) (i := 136) rfl)) rfl
set_option maxRecDepth 100000 in
theorem wd_1695 : (Jvm.Cond.methodLink "ReedOraclesModel" (233 : Nat) ({ cls := "ReedOraclesModel", name := "laysActs", desc := "(III)V" } : Jvm.MethodName)) ∈ zT := zT_mem (tb7 _ (List.mem_of_getElem? (l := tables_1_7) (i := 137) rfl)) rfl
set_option maxRecDepth 100000 in
theorem wd_1697 : (Jvm.Cond.instanceMethod ({ cls := "ReedOraclesModel", name := "laysActs", desc := "(III)V" } : Jvm.MethodName)) ∈ zT := zT_mem (tb7 _ (List.mem_of_getElem? (l := tables_1_7) (i := 139) rfl)) rfl
set_option maxRecDepth 100000 in
theorem wd_1698 : (Jvm.Cond.code ({ cls := "ReedOraclesModel", name := "laysActs", desc := "(III)V" } : Jvm.MethodName) prog_14_method_45_code (7 : Nat) (Option.none : Option Jvm.ClassFile.FieldType)) ∈ zT := zT_mem (tb7 _ (List.mem_of_getElem? (l := tables_1_7) (i := 140) rfl)) rfl
set_option maxRecDepth 100000 in
theorem wd_1699 : (Jvm.Cond.constant "ReedOraclesModel" (229 : Nat) (99999 : Int32)) ∈ zT := zT_mem (tb7 _ (List.mem_of_getElem? (l := tables_1_7) (i := 141) rfl)) rfl
set_option maxRecDepth 100000 in
theorem wd_1700 : (Jvm.Cond.methodLink "ReedOraclesModel" (230 : Nat) ({ cls := "ReedOraclesModel", name := "acted", desc := "(II)I" } : Jvm.MethodName)) ∈ zT := zT_mem (tb7 _ (List.mem_of_getElem? (l := tables_1_7) (i := 142) rfl)) rfl
set_option maxRecDepth 100000 in
theorem wd_1701 : (Jvm.Cond.static ({ cls := "ReedOraclesModel", name := "acted", desc := "(II)I" } : Jvm.MethodName)) ∈ zT := zT_mem (tb7 _ (List.mem_of_getElem? (l := tables_1_7) (i := 143) rfl)) rfl
set_option maxRecDepth 100000 in
theorem wd_1702 : (Jvm.Cond.code ({ cls := "ReedOraclesModel", name := "acted", desc := "(II)I" } : Jvm.MethodName) prog_14_method_44_code (5 : Nat) (Option.some Jvm.ClassFile.FieldType.int)) ∈ zT := zT_mem (tb7 _ (List.mem_of_getElem? (l := tables_1_7) (i := 144) rfl)) rfl
set_option maxRecDepth 100000 in
theorem wd_1703 : (Jvm.Cond.methodLink "ReedOraclesLaw" (63 : Nat) ({ cls := "ReedOraclesModel", name := "favour", desc := "(IIII)I" } : Jvm.MethodName)) ∈ zT := zT_mem (tb7 _ (List.mem_of_getElem? (l := tables_1_7) (i := 145) rfl)) rfl
set_option maxRecDepth 100000 in
theorem wd_1704 : (Jvm.Cond.instanceMethod ({ cls := "ReedOraclesModel", name := "favour", desc := "(IIII)I" } : Jvm.MethodName)) ∈ zT := zT_mem (tb7 _ (List.mem_of_getElem? (l := tables_1_7) (i := 146) rfl)) rfl
set_option maxRecDepth 100000 in
theorem wd_1705 : (Jvm.Cond.selects "ReedOraclesModel" ({ cls := "ReedOraclesModel", name := "favour", desc := "(IIII)I" } : Jvm.MethodName) ({ cls := "ReedOraclesModel", name := "favour", desc := "(IIII)I" } : Jvm.MethodName)) ∈ zT := zT_mem (tb7 _ (List.mem_of_getElem? (l := tables_1_7) (i := 147) rfl)) rfl
set_option maxRecDepth 100000 in
theorem wd_1706 : (Jvm.Cond.code ({ cls := "ReedOraclesModel", name := "favour", desc := "(IIII)I" } : Jvm.MethodName) prog_14_method_50_code (9 : Nat) (Option.some Jvm.ClassFile.FieldType.int)) ∈ zT := zT_mem (tb7 _ (List.mem_of_getElem? (l := tables_1_7) (i := 148) rfl)) rfl
set_option maxRecDepth 100000 in
theorem wd_1707 : (Jvm.Cond.methodLink "ReedOraclesModel" (241 : Nat) ({ cls := "ReedOraclesModel", name := "isFree", desc := "(II)Z" } : Jvm.MethodName)) ∈ zT := zT_mem (tb7 _ (List.mem_of_getElem? (l := tables_1_7) (i := 149) rfl)) rfl
set_option maxRecDepth 100000 in
theorem wd_1709 : (Jvm.Cond.instanceMethod ({ cls := "ReedOraclesModel", name := "isFree", desc := "(II)Z" } : Jvm.MethodName)) ∈ zT := zT_mem (tb7 _ (List.mem_of_getElem? (l := tables_1_7) (i := 151) rfl)) rfl
set_option maxRecDepth 100000 in
theorem wd_1710 : (Jvm.Cond.code ({ cls := "ReedOraclesModel", name := "isFree", desc := "(II)Z" } : Jvm.MethodName) prog_14_method_49_code (3 : Nat) (Option.some Jvm.ClassFile.FieldType.boolean)) ∈ zT := zT_mem (tb7 _ (List.mem_of_getElem? (l := tables_1_7) (i := 152) rfl)) rfl
set_option maxRecDepth 100000 in
theorem wd_1711 : (Jvm.Cond.methodLink "ReedOraclesModel" (244 : Nat) ({ cls := "ReedOraclesModel", name := "favourBy", desc := "(IIIII)I" } : Jvm.MethodName)) ∈ zT := zT_mem (tb7 _ (List.mem_of_getElem? (l := tables_1_7) (i := 153) rfl)) rfl
set_option maxRecDepth 100000 in
theorem wd_1713 : (Jvm.Cond.instanceMethod ({ cls := "ReedOraclesModel", name := "favourBy", desc := "(IIIII)I" } : Jvm.MethodName)) ∈ zT := zT_mem (tb7 _ (List.mem_of_getElem? (l := tables_1_7) (i := 155) rfl)) rfl
set_option maxRecDepth 100000 in
theorem wd_1714 : (Jvm.Cond.code ({ cls := "ReedOraclesModel", name := "favourBy", desc := "(IIIII)I" } : Jvm.MethodName) prog_14_method_48_code (6 : Nat) (Option.some Jvm.ClassFile.FieldType.int)) ∈ zT := zT_mem (tb7 _ (List.mem_of_getElem? (l := tables_1_7) (i := 156) rfl)) rfl
set_option maxRecDepth 100000 in
theorem wd_1715 : (Jvm.Cond.methodLink "ReedOraclesModel" (237 : Nat) ({ cls := "ReedOraclesModel", name := "gains", desc := "(IIII)I" } : Jvm.MethodName)) ∈ zT := zT_mem (tb7 _ (List.mem_of_getElem? (l := tables_1_7) (i := 157) rfl)) rfl
set_option maxRecDepth 100000 in
theorem wd_1717 : (Jvm.Cond.instanceMethod ({ cls := "ReedOraclesModel", name := "gains", desc := "(IIII)I" } : Jvm.MethodName)) ∈ zT := zT_mem (tb7 _ (List.mem_of_getElem? (l := tables_1_7) (i := 159) rfl)) rfl
set_option maxRecDepth 100000 in
theorem wd_1718 : (Jvm.Cond.code ({ cls := "ReedOraclesModel", name := "gains", desc := "(IIII)I" } : Jvm.MethodName) prog_14_method_47_code (5 : Nat) (Option.some Jvm.ClassFile.FieldType.int)) ∈ zT := zT_mem (tb7 _ (List.mem_of_getElem? (l := tables_1_7) (i := 160) rfl)) rfl
set_option maxRecDepth 100000 in
theorem wd_1719 : (Jvm.Cond.methodLink "ReedOraclesLaw" (68 : Nat) ({ cls := "ReedOraclesModel", name := "dare", desc := "(IIIZ)I" } : Jvm.MethodName)) ∈ zT := zT_mem (tb7 _ (List.mem_of_getElem? (l := tables_1_7) (i := 161) rfl)) rfl
set_option maxRecDepth 100000 in
theorem wd_1720 : (Jvm.Cond.instanceMethod ({ cls := "ReedOraclesModel", name := "dare", desc := "(IIIZ)I" } : Jvm.MethodName)) ∈ zT := zT_mem (tb7 _ (List.mem_of_getElem? (l := tables_1_7) (i := 162) rfl)) rfl
set_option maxRecDepth 100000 in
theorem wd_1721 : (Jvm.Cond.selects "ReedOraclesModel" ({ cls := "ReedOraclesModel", name := "dare", desc := "(IIIZ)I" } : Jvm.MethodName) ({ cls := "ReedOraclesModel", name := "dare", desc := "(IIIZ)I" } : Jvm.MethodName)) ∈ zT := zT_mem (tb7 _ (List.mem_of_getElem? (l := tables_1_7) (i := 163) rfl)) rfl
set_option maxRecDepth 100000 in
theorem wd_1722 : (Jvm.Cond.code ({ cls := "ReedOraclesModel", name := "dare", desc := "(IIIZ)I" } : Jvm.MethodName) prog_14_method_53_code (5 : Nat) (Option.some Jvm.ClassFile.FieldType.int)) ∈ zT := zT_mem (tb7 _ (List.mem_of_getElem? (l := tables_1_7) (i := 164) rfl)) rfl
set_option maxRecDepth 100000 in
theorem wd_1723 : (Jvm.Cond.methodLink "ReedOraclesModel" (254 : Nat) ({ cls := "ReedOraclesModel", name := "laysDares", desc := "(II)V" } : Jvm.MethodName)) ∈ zT := zT_mem (tb7 _ (List.mem_of_getElem? (l := tables_1_7) (i := 165) rfl)) rfl
set_option maxRecDepth 100000 in
theorem wd_1725 : (Jvm.Cond.instanceMethod ({ cls := "ReedOraclesModel", name := "laysDares", desc := "(II)V" } : Jvm.MethodName)) ∈ zT := zT_mem (tb7 _ (List.mem_of_getElem? (l := tables_1_7) (i := 167) rfl)) rfl
set_option maxRecDepth 100000 in
theorem wd_1726 : (Jvm.Cond.code ({ cls := "ReedOraclesModel", name := "laysDares", desc := "(II)V" } : Jvm.MethodName) prog_14_method_52_code (8 : Nat) (Option.none : Option Jvm.ClassFile.FieldType)) ∈ zT := zT_mem (tb7 _ (List.mem_of_getElem? (l := tables_1_7) (i := 168) rfl)) rfl
set_option maxRecDepth 100000 in
theorem wd_1727 : (Jvm.Cond.methodLink "ReedOraclesModel" (248 : Nat) ({ cls := "ReedOraclesModel", name := "bitsOf", desc := "(I)I" } : Jvm.MethodName)) ∈ zT := zT_mem (tb7 _ (List.mem_of_getElem? (l := tables_1_7) (i := 169) rfl)) rfl
set_option maxRecDepth 100000 in
theorem wd_1728 : (Jvm.Cond.static ({ cls := "ReedOraclesModel", name := "bitsOf", desc := "(I)I" } : Jvm.MethodName)) ∈ zT := zT_mem (tb7 _ (List.mem_of_getElem? (l := tables_1_7) (i := 170) rfl)) rfl
set_option maxRecDepth 100000 in
theorem wd_1729 : (Jvm.Cond.code ({ cls := "ReedOraclesModel", name := "bitsOf", desc := "(I)I" } : Jvm.MethodName) prog_14_method_51_code (3 : Nat) (Option.some Jvm.ClassFile.FieldType.int)) ∈ zT := zT_mem (tb7 _ (List.mem_of_getElem? (l := tables_1_7) (i := 171) rfl)) rfl
set_option maxRecDepth 100000 in
theorem wd_1730 : (Jvm.Cond.methodLink "ReedOraclesLaw" (72 : Nat) ({ cls := "ReedOraclesModel", name := "alike", desc := "(III)I" } : Jvm.MethodName)) ∈ zT := zT_mem (tb7 _ (List.mem_of_getElem? (l := tables_1_7) (i := 172) rfl)) rfl
set_option maxRecDepth 100000 in
theorem wd_1731 : (Jvm.Cond.instanceMethod ({ cls := "ReedOraclesModel", name := "alike", desc := "(III)I" } : Jvm.MethodName)) ∈ zT := zT_mem (tb7 _ (List.mem_of_getElem? (l := tables_1_7) (i := 173) rfl)) rfl
set_option maxRecDepth 100000 in
theorem wd_1732 : (Jvm.Cond.selects "ReedOraclesModel" ({ cls := "ReedOraclesModel", name := "alike", desc := "(III)I" } : Jvm.MethodName) ({ cls := "ReedOraclesModel", name := "alike", desc := "(III)I" } : Jvm.MethodName)) ∈ zT := zT_mem (tb7 _ (List.mem_of_getElem? (l := tables_1_7) (i := 174) rfl)) rfl
set_option maxRecDepth 100000 in
theorem wd_1733 : (Jvm.Cond.code ({ cls := "ReedOraclesModel", name := "alike", desc := "(III)I" } : Jvm.MethodName) prog_14_method_54_code (8 : Nat) (Option.some Jvm.ClassFile.FieldType.int)) ∈ zT := zT_mem (tb7 _ (List.mem_of_getElem? (l := tables_1_7) (i := 175) rfl)) rfl
set_option maxRecDepth 100000 in
theorem wd_1734 : (Jvm.Cond.methodLink "ReedOraclesLaw" (76 : Nat) ({ cls := "ReedOraclesModel", name := "lows", desc := "(I)I" } : Jvm.MethodName)) ∈ zT := zT_mem (tb7 _ (List.mem_of_getElem? (l := tables_1_7) (i := 176) rfl)) rfl
set_option maxRecDepth 100000 in
theorem wd_1735 : (Jvm.Cond.instanceMethod ({ cls := "ReedOraclesModel", name := "lows", desc := "(I)I" } : Jvm.MethodName)) ∈ zT := zT_mem (tb7 _ (List.mem_of_getElem? (l := tables_1_7) (i := 177) rfl)) rfl
set_option maxRecDepth 100000 in
theorem wd_1736 : (Jvm.Cond.selects "ReedOraclesModel" ({ cls := "ReedOraclesModel", name := "lows", desc := "(I)I" } : Jvm.MethodName) ({ cls := "ReedOraclesModel", name := "lows", desc := "(I)I" } : Jvm.MethodName)) ∈ zT := zT_mem (tb7 _ (List.mem_of_getElem? (l := tables_1_7) (i := 178) rfl)) rfl
set_option maxRecDepth 100000 in
theorem wd_1737 : (Jvm.Cond.code ({ cls := "ReedOraclesModel", name := "lows", desc := "(I)I" } : Jvm.MethodName) prog_14_method_55_code (6 : Nat) (Option.some Jvm.ClassFile.FieldType.int)) ∈ zT := zT_mem (tb7 _ (List.mem_of_getElem? (l := tables_1_7) (i := 179) rfl)) rfl
set_option maxRecDepth 100000 in
theorem wd_1738 : (Jvm.Cond.methodLink "ReedOraclesLaw" (80 : Nat) ({ cls := "ReedOraclesModel", name := "told", desc := "(III)I" } : Jvm.MethodName)) ∈ zT := zT_mem (tb7 _ (List.mem_of_getElem? (l := tables_1_7) (i := 180) rfl)) rfl
set_option maxRecDepth 100000 in
theorem wd_1739 : (Jvm.Cond.instanceMethod ({ cls := "ReedOraclesModel", name := "told", desc := "(III)I" } : Jvm.MethodName)) ∈ zT := zT_mem (tb7 _ (List.mem_of_getElem? (l := tables_1_7) (i := 181) rfl)) rfl
set_option maxRecDepth 100000 in
theorem wd_1740 : (Jvm.Cond.selects "ReedOraclesModel" ({ cls := "ReedOraclesModel", name := "told", desc := "(III)I" } : Jvm.MethodName) ({ cls := "ReedOraclesModel", name := "told", desc := "(III)I" } : Jvm.MethodName)) ∈ zT := zT_mem (tb7 _ (List.mem_of_getElem? (l := tables_1_7) (i := 182) rfl)) rfl
set_option maxRecDepth 100000 in
theorem wd_1741 : (Jvm.Cond.code ({ cls := "ReedOraclesModel", name := "told", desc := "(III)I" } : Jvm.MethodName) prog_14_method_56_code (7 : Nat) (Option.some Jvm.ClassFile.FieldType.int)) ∈ zT := zT_mem (tb7 _ (List.mem_of_getElem? (l := tables_1_7) (i := 183) rfl)) rfl
set_option maxRecDepth 100000 in
theorem wd_1742 : (Jvm.Cond.methodLink "ReedOraclesLaw" (84 : Nat) ({ cls := "ReedOraclesModel", name := "weather", desc := "(IIIII)I" } : Jvm.MethodName)) ∈ zT := zT_mem (tb7 _ (List.mem_of_getElem? (l := tables_1_7) (i := 184) rfl)) rfl
set_option maxRecDepth 100000 in
theorem wd_1743 : (Jvm.Cond.instanceMethod ({ cls := "ReedOraclesModel", name := "weather", desc := "(IIIII)I" } : Jvm.MethodName)) ∈ zT := zT_mem (tb7 _ (List.mem_of_getElem? (l := tables_1_7) (i := 185) rfl)) rfl
set_option maxRecDepth 100000 in
theorem wd_1744 : (Jvm.Cond.selects "ReedOraclesModel" ({ cls := "ReedOraclesModel", name := "weather", desc := "(IIIII)I" } : Jvm.MethodName) ({ cls := "ReedOraclesModel", name := "weather", desc := "(IIIII)I" } : Jvm.MethodName)) ∈ zT := zT_mem (tb7 _ (List.mem_of_getElem? (l := tables_1_7) (i := 186) rfl)) rfl
set_option maxRecDepth 100000 in
theorem wd_1745 : (Jvm.Cond.code ({ cls := "ReedOraclesModel", name := "weather", desc := "(IIIII)I" } : Jvm.MethodName) prog_14_method_57_code (7 : Nat) (Option.some Jvm.ClassFile.FieldType.int)) ∈ zT := zT_mem (tb7 _ (List.mem_of_getElem? (l := tables_1_7) (i := 187) rfl)) rfl
set_option maxRecDepth 100000 in
theorem wd_1746 : (Jvm.Cond.methodLink "ReedOraclesLaw" (105 : Nat) ({ cls := "ReedOraclesModel", name := "chant", desc := "(IIIII)I" } : Jvm.MethodName)) ∈ zT := zT_mem (tb7 _ (List.mem_of_getElem? (l := tables_1_7) (i := 188) rfl)) rfl
set_option maxRecDepth 100000 in
theorem wd_1747 : (Jvm.Cond.instanceMethod ({ cls := "ReedOraclesModel", name := "chant", desc := "(IIIII)I" } : Jvm.MethodName)) ∈ zT := zT_mem (tb7 _ (List.mem_of_getElem? (l := tables_1_7) (i := 189) rfl)) rfl
set_option maxRecDepth 100000 in
theorem wd_1748 : (Jvm.Cond.selects "ReedOraclesModel" ({ cls := "ReedOraclesModel", name := "chant", desc := "(IIIII)I" } : Jvm.MethodName) ({ cls := "ReedOraclesModel", name := "chant", desc := "(IIIII)I" } : Jvm.MethodName)) ∈ zT := zT_mem (tb7 _ (List.mem_of_getElem? (l := tables_1_7) (i := 190) rfl)) rfl
set_option maxRecDepth 100000 in
theorem wd_1749 : (Jvm.Cond.code ({ cls := "ReedOraclesModel", name := "chant", desc := "(IIIII)I" } : Jvm.MethodName) prog_14_method_59_code (6 : Nat) (Option.some Jvm.ClassFile.FieldType.int)) ∈ zT := zT_mem (tb7 _ (List.mem_of_getElem? (l := tables_1_7) (i := 191) rfl)) rfl
set_option maxRecDepth 100000 in
theorem wd_1750 : (Jvm.Cond.methodLink "ReedOraclesModel" (257 : Nat) ({ cls := "ReedOraclesModel", name := "dries", desc := "(II)V" } : Jvm.MethodName)) ∈ zT := zT_mem (tb7 _ (List.mem_of_getElem? (l := tables_1_7) (i := 192) rfl)) rfl
set_option maxRecDepth 100000 in
theorem wd_1752 : (Jvm.Cond.instanceMethod ({ cls := "ReedOraclesModel", name := "dries", desc := "(II)V" } : Jvm.MethodName)) ∈ zT := zT_mem (tb7 _ (List.mem_of_getElem? (l := tables_1_7) (i := 194) rfl)) rfl
set_option maxRecDepth 100000 in
theorem wd_1753 : (Jvm.Cond.code ({ cls := "ReedOraclesModel", name := "dries", desc := "(II)V" } : Jvm.MethodName) prog_14_method_58_code (3 : Nat) (Option.none : Option Jvm.ClassFile.FieldType)) ∈ zT := zT_mem (tb7 _ (List.mem_of_getElem? (l := tables_1_7) (i := 195) rfl)) rfl
set_option maxRecDepth 100000 in
theorem wd_1754 : (Jvm.Cond.methodLink "ReedOraclesLaw" (109 : Nat) ({ cls := "ReedOraclesModel", name := "ripe", desc := "(IIIII)I" } : Jvm.MethodName)) ∈ zT := zT_mem (tb7 _ (List.mem_of_getElem? (l := tables_1_7) (i := 196) rfl)) rfl
set_option maxRecDepth 100000 in
theorem wd_1755 : (Jvm.Cond.instanceMethod ({ cls := "ReedOraclesModel", name := "ripe", desc := "(IIIII)I" } : Jvm.MethodName)) ∈ zT := zT_mem (tb7 _ (List.mem_of_getElem? (l := tables_1_7) (i := 197) rfl)) rfl
set_option maxRecDepth 100000 in
theorem wd_1756 : (Jvm.Cond.selects "ReedOraclesModel" ({ cls := "ReedOraclesModel", name := "ripe", desc := "(IIIII)I" } : Jvm.MethodName) ({ cls := "ReedOraclesModel", name := "ripe", desc := "(IIIII)I" } : Jvm.MethodName)) ∈ zT := zT_mem (tb7 _ (List.mem_of_getElem? (l := tables_1_7) (i := 198) rfl)) rfl
set_option maxRecDepth 100000 in
theorem wd_1757 : (Jvm.Cond.code ({ cls := "ReedOraclesModel", name := "ripe", desc := "(IIIII)I" } : Jvm.MethodName) prog_14_method_60_code (7 : Nat) (Option.some Jvm.ClassFile.FieldType.int)) ∈ zT := zT_mem (tb7 _ (List.mem_of_getElem? (l := tables_1_7) (i := 199) rfl)) rfl
set_option maxRecDepth 100000 in
theorem wd_1758 : (Jvm.Cond.methodLink "ReedOraclesLaw" (113 : Nat) ({ cls := "ReedOraclesModel", name := "deepest", desc := "(III)I" } : Jvm.MethodName)) ∈ zT := zT_mem (tb7 _ (List.mem_of_getElem? (l := tables_1_7) (i := 200) rfl)) rfl
set_option maxRecDepth 100000 in
theorem wd_1759 : (Jvm.Cond.instanceMethod ({ cls := "ReedOraclesModel", name := "deepest", desc := "(III)I" } : Jvm.MethodName)) ∈ zT := zT_mem (tb7 _ (List.mem_of_getElem? (l := tables_1_7) (i := 201) rfl)) rfl
set_option maxRecDepth 100000 in
theorem wd_1760 : (Jvm.Cond.selects "ReedOraclesModel" ({ cls := "ReedOraclesModel", name := "deepest", desc := "(III)I" } : Jvm.MethodName) ({ cls := "ReedOraclesModel", name := "deepest", desc := "(III)I" } : Jvm.MethodName)) ∈ zT := zT_mem (tb7 _ (List.mem_of_getElem? (l := tables_1_7) (i := 202) rfl)) rfl
set_option maxRecDepth 100000 in
theorem wd_1761 : (Jvm.Cond.code ({ cls := "ReedOraclesModel", name := "deepest", desc := "(III)I" } : Jvm.MethodName) prog_14_method_61_code (6 : Nat) (Option.some Jvm.ClassFile.FieldType.int)) ∈ zT := zT_mem (tb7 _ (List.mem_of_getElem? (l := tables_1_7) (i := 203) rfl)) rfl
set_option maxRecDepth 100000 in
theorem wd_1762 : (Jvm.Cond.methodLink "ReedOraclesLaw" (117 : Nat) ({ cls := "ReedOraclesModel", name := "program", desc := "(IIII)I" } : Jvm.MethodName)) ∈ zT := zT_mem (tb7 _ (List.mem_of_getElem? (l := tables_1_7) (i := 204) rfl)) rfl
set_option maxRecDepth 100000 in
theorem wd_1763 : (Jvm.Cond.instanceMethod ({ cls := "ReedOraclesModel", name := "program", desc := "(IIII)I" } : Jvm.MethodName)) ∈ zT := zT_mem (tb7 _ (List.mem_of_getElem? (l := tables_1_7) (i := 205) rfl)) rfl
set_option maxRecDepth 100000 in
theorem wd_1764 : (Jvm.Cond.selects "ReedOraclesModel" ({ cls := "ReedOraclesModel", name := "program", desc := "(IIII)I" } : Jvm.MethodName) ({ cls := "ReedOraclesModel", name := "program", desc := "(IIII)I" } : Jvm.MethodName)) ∈ zT := zT_mem (tb7 _ (List.mem_of_getElem? (l := tables_1_7) (i := 206) rfl)) rfl
set_option maxRecDepth 100000 in
theorem wd_1765 : (Jvm.Cond.code ({ cls := "ReedOraclesModel", name := "program", desc := "(IIII)I" } : Jvm.MethodName) prog_14_method_63_code (8 : Nat) (Option.some Jvm.ClassFile.FieldType.int)) ∈ zT := zT_mem (tb7 _ (List.mem_of_getElem? (l := tables_1_7) (i := 207) rfl)) rfl
set_option maxRecDepth 100000 in
theorem wd_1766 : (Jvm.Cond.methodLink "ReedOraclesModel" (260 : Nat) ({ cls := "ReedOraclesModel", name := "isFine", desc := "(IIII)Z" } : Jvm.MethodName)) ∈ zT := zT_mem (tb7 _ (List.mem_of_getElem? (l := tables_1_7) (i := 208) rfl)) rfl
set_option maxRecDepth 100000 in
theorem wd_1768 : (Jvm.Cond.instanceMethod ({ cls := "ReedOraclesModel", name := "isFine", desc := "(IIII)Z" } : Jvm.MethodName)) ∈ zT := zT_mem (tb7 _ (List.mem_of_getElem? (l := tables_1_7) (i := 210) rfl)) rfl
set_option maxRecDepth 100000 in
theorem wd_1769 : (Jvm.Cond.code ({ cls := "ReedOraclesModel", name := "isFine", desc := "(IIII)Z" } : Jvm.MethodName) prog_14_method_62_code (5 : Nat) (Option.some Jvm.ClassFile.FieldType.boolean)) ∈ zT := zT_mem (tb7 _ (List.mem_of_getElem? (l := tables_1_7) (i := 211) rfl)) rfl
set_option maxRecDepth 100000 in
theorem wd_1770 : (Jvm.Cond.methodLink "ReedOraclesLaw" (121 : Nat) ({ cls := "ReedOraclesModel", name := "edit", desc := "(IIII)I" } : Jvm.MethodName)) ∈ zT := zT_mem (tb7 _ (List.mem_of_getElem? (l := tables_1_7) (i := 212) rfl)) rfl
set_option maxRecDepth 100000 in
theorem wd_1771 : (Jvm.Cond.instanceMethod ({ cls := "ReedOraclesModel", name := "edit", desc := "(IIII)I" } : Jvm.MethodName)) ∈ zT := zT_mem (tb7 _ (List.mem_of_getElem? (l := tables_1_7) (i := 213) rfl)) rfl
set_option maxRecDepth 100000 in
theorem wd_1772 : (Jvm.Cond.selects "ReedOraclesModel" ({ cls := "ReedOraclesModel", name := "edit", desc := "(IIII)I" } : Jvm.MethodName) ({ cls := "ReedOraclesModel", name := "edit", desc := "(IIII)I" } : Jvm.MethodName)) ∈ zT := zT_mem (tb7 _ (List.mem_of_getElem? (l := tables_1_7) (i := 214) rfl)) rfl
set_option maxRecDepth 100000 in
theorem wd_1773 : (Jvm.Cond.code ({ cls := "ReedOraclesModel", name := "edit", desc := "(IIII)I" } : Jvm.MethodName) prog_14_method_64_code (9 : Nat) (Option.some Jvm.ClassFile.FieldType.int)) ∈ zT := zT_mem (tb7 _ (List.mem_of_getElem? (l := tables_1_7) (i := 215) rfl)) rfl
set_option maxRecDepth 100000 in
theorem wd_1774 : (Jvm.Cond.methodLink "ReedOraclesLaw" (126 : Nat) ({ cls := "ReedOraclesModel", name := "choir", desc := "(IIZ)I" } : Jvm.MethodName)) ∈ zT := zT_mem (tb7 _ (List.mem_of_getElem? (l := tables_1_7) (i := 216) rfl)) rfl
set_option maxRecDepth 100000 in
theorem wd_1775 : (Jvm.Cond.instanceMethod ({ cls := "ReedOraclesModel", name := "choir", desc := "(IIZ)I" } : Jvm.MethodName)) ∈ zT := zT_mem (tb7 _ (List.mem_of_getElem? (l := tables_1_7) (i := 217) rfl)) rfl
set_option maxRecDepth 100000 in
theorem wd_1776 : (Jvm.Cond.selects "ReedOraclesModel" ({ cls := "ReedOraclesModel", name := "choir", desc := "(IIZ)I" } : Jvm.MethodName) ({ cls := "ReedOraclesModel", name := "choir", desc := "(IIZ)I" } : Jvm.MethodName)) ∈ zT := zT_mem (tb7 _ (List.mem_of_getElem? (l := tables_1_7) (i := 218) rfl)) rfl
set_option maxRecDepth 100000 in
theorem wd_1777 : (Jvm.Cond.code ({ cls := "ReedOraclesModel", name := "choir", desc := "(IIZ)I" } : Jvm.MethodName) prog_14_method_66_code (6 : Nat) (Option.some Jvm.ClassFile.FieldType.int)) ∈ zT := zT_mem (tb7 _ (List.mem_of_getElem? (l := tables_1_7) (i := 219) rfl)) rfl
set_option maxRecDepth 100000 in
theorem wd_1778 : (Jvm.Cond.methodLink "ReedOraclesModel" (263 : Nat) ({ cls := "ReedOraclesModel", name := "sounds", desc := "(II)Z" } : Jvm.MethodName)) ∈ zT := zT_mem (tb7 _ (List.mem_of_getElem? (l := tables_1_7) (i := 220) rfl)) rfl
set_option maxRecDepth 100000 in
theorem wd_1780 : (Jvm.Cond.instanceMethod ({ cls := "ReedOraclesModel", name := "sounds", desc := "(II)Z" } : Jvm.MethodName)) ∈ zT := zT_mem (tb7 _ (List.mem_of_getElem? (l := tables_1_7) (i := 222) rfl)) rfl
set_option maxRecDepth 100000 in
theorem wd_1781 : (Jvm.Cond.code ({ cls := "ReedOraclesModel", name := "sounds", desc := "(II)Z" } : Jvm.MethodName) prog_14_method_65_code (6 : Nat) (Option.some Jvm.ClassFile.FieldType.boolean)) ∈ zT := zT_mem (tb7 _ (List.mem_of_getElem? (l := tables_1_7) (i := 223) rfl)) rfl
set_option maxRecDepth 100000 in
theorem wd_1782 : (Jvm.Cond.methodLink "ReedOraclesLaw" (130 : Nat) ({ cls := "ReedOraclesModel", name := "peace", desc := "(IIZ)I" } : Jvm.MethodName)) ∈ zT := zT_mem (tb7 _ (List.mem_of_getElem? (l := tables_1_7) (i := 224) rfl)) rfl
set_option maxRecDepth 100000 in
theorem wd_1783 : (Jvm.Cond.instanceMethod ({ cls := "ReedOraclesModel", name := "peace", desc := "(IIZ)I" } : Jvm.MethodName)) ∈ zT := zT_mem (tb7 _ (List.mem_of_getElem? (l := tables_1_7) (i := 225) rfl)) rfl
set_option maxRecDepth 100000 in
theorem wd_1784 : (Jvm.Cond.selects "ReedOraclesModel" ({ cls := "ReedOraclesModel", name := "peace", desc := "(IIZ)I" } : Jvm.MethodName) ({ cls := "ReedOraclesModel", name := "peace", desc := "(IIZ)I" } : Jvm.MethodName)) ∈ zT := zT_mem (tb7 _ (List.mem_of_getElem? (l := tables_1_7) (i := 226) rfl)) rfl
set_option maxRecDepth 100000 in
theorem wd_1785 : (Jvm.Cond.code ({ cls := "ReedOraclesModel", name := "peace", desc := "(IIZ)I" } : Jvm.MethodName) prog_14_method_69_code (6 : Nat) (Option.some Jvm.ClassFile.FieldType.int)) ∈ zT := zT_mem (tb7 _ (List.mem_of_getElem? (l := tables_1_7) (i := 227) rfl)) rfl
set_option maxRecDepth 100000 in
theorem wd_1786 : (Jvm.Cond.methodLink "ReedOraclesModel" (269 : Nat) ({ cls := "ReedOraclesModel", name := "isPeace", desc := "(II)Z" } : Jvm.MethodName)) ∈ zT := zT_mem (tb7 _ (List.mem_of_getElem? (l := tables_1_7) (i := 228) rfl)) rfl
set_option maxRecDepth 100000 in
theorem wd_1788 : (Jvm.Cond.instanceMethod ({ cls := "ReedOraclesModel", name := "isPeace", desc := "(II)Z" } : Jvm.MethodName)) ∈ zT := zT_mem (tb7 _ (List.mem_of_getElem? (l := tables_1_7) (i := 230) rfl)) rfl
set_option maxRecDepth 100000 in
theorem wd_1789 : (Jvm.Cond.code ({ cls := "ReedOraclesModel", name := "isPeace", desc := "(II)Z" } : Jvm.MethodName) prog_14_method_68_code (6 : Nat) (Option.some Jvm.ClassFile.FieldType.boolean)) ∈ zT := zT_mem (tb7 _ (List.mem_of_getElem? (l := tables_1_7) (i := 231) rfl)) rfl
set_option maxRecDepth 100000 in
theorem wd_1790 : (Jvm.Cond.methodLink "ReedOraclesModel" (266 : Nat) ({ cls := "ReedOraclesModel", name := "areApart", desc := "(III)Z" } : Jvm.MethodName)) ∈ zT := zT_mem (tb7 _ (List.mem_of_getElem? (l := tables_1_7) (i := 232) rfl)) rfl
set_option maxRecDepth 100000 in
theorem wd_1792 : (Jvm.Cond.instanceMethod ({ cls := "ReedOraclesModel", name := "areApart", desc := "(III)Z" } : Jvm.MethodName)) ∈ zT := zT_mem (tb7 _ (List.mem_of_getElem? (l := tables_1_7) (i := 234) rfl)) rfl
set_option maxRecDepth 100000 in
theorem wd_1793 : (Jvm.Cond.code ({ cls := "ReedOraclesModel", name := "areApart", desc := "(III)Z" } : Jvm.MethodName) prog_14_method_67_code (7 : Nat) (Option.some Jvm.ClassFile.FieldType.boolean)) ∈ zT := zT_mem (tb7 _ (List.mem_of_getElem? (l := tables_1_7) (i := 235) rfl)) rfl
set_option maxRecDepth 100000 in
theorem wd_1794 : (Jvm.Cond.methodLink "ReedOraclesLaw" (134 : Nat) ({ cls := "ReedOraclesModel", name := "marched", desc := "(II)I" } : Jvm.MethodName)) ∈ zT := zT_mem (tb7 _ (List.mem_of_getElem? (l := tables_1_7) (i := 236) rfl)) rfl
set_option maxRecDepth 100000 in
theorem wd_1795 : (Jvm.Cond.instanceMethod ({ cls := "ReedOraclesModel", name := "marched", desc := "(II)I" } : Jvm.MethodName)) ∈ zT := zT_mem (tb7 _ (List.mem_of_getElem? (l := tables_1_7) (i := 237) rfl)) rfl
set_option maxRecDepth 100000 in
theorem wd_1796 : (Jvm.Cond.selects "ReedOraclesModel" ({ cls := "ReedOraclesModel", name := "marched", desc := "(II)I" } : Jvm.MethodName) ({ cls := "ReedOraclesModel", name := "marched", desc := "(II)I" } : Jvm.MethodName)) ∈ zT := zT_mem (tb7 _ (List.mem_of_getElem? (l := tables_1_7) (i := 238) rfl)) rfl
set_option maxRecDepth 100000 in
theorem wd_1797 : (Jvm.Cond.code ({ cls := "ReedOraclesModel", name := "marched", desc := "(II)I" } : Jvm.MethodName) prog_14_method_72_code (8 : Nat) (Option.some Jvm.ClassFile.FieldType.int)) ∈ zT := zT_mem (tb7 _ (List.mem_of_getElem? (l := tables_1_7) (i := 239) rfl)) rfl
set_option maxRecDepth 100000 in
theorem wd_1798 : (Jvm.Cond.methodLink "ReedOraclesModel" (272 : Nat) ({ cls := "ReedOraclesModel", name := "answerBy", desc := "(III)I" } : Jvm.MethodName)) ∈ zT := zT_mem (tb8 _ (List.mem_of_getElem? (l := tables_1_8) (i := 0) rfl)) rfl
set_option maxRecDepth 100000 in
theorem wd_1800 : (Jvm.Cond.instanceMethod ({ cls := "ReedOraclesModel", name := "answerBy", desc := "(III)I" } : Jvm.MethodName)) ∈ zT := zT_mem (tb8 _ (List.mem_of_getElem? (l := tables_1_8) (i := 2) rfl)) rfl
set_option maxRecDepth 100000 in
theorem wd_1801 : (Jvm.Cond.code ({ cls := "ReedOraclesModel", name := "answerBy", desc := "(III)I" } : Jvm.MethodName) prog_14_method_70_code (4 : Nat) (Option.some Jvm.ClassFile.FieldType.int)) ∈ zT := zT_mem (tb8 _ (List.mem_of_getElem? (l := tables_1_8) (i := 3) rfl)) rfl
set_option maxRecDepth 100000 in
theorem wd_1802 : (Jvm.Cond.methodLink "ReedOraclesLaw" (138 : Nat) ({ cls := "ReedOraclesModel", name := "chords", desc := "(III)I" } : Jvm.MethodName)) ∈ zT := zT_mem (tb8 _ (List.mem_of_getElem? (l := tables_1_8) (i := 4) rfl)) rfl
set_option maxRecDepth 100000 in
theorem wd_1803 : (Jvm.Cond.instanceMethod ({ cls := "ReedOraclesModel", name := "chords", desc := "(III)I" } : Jvm.MethodName)) ∈ zT := zT_mem (tb8 _ (List.mem_of_getElem? (l := tables_1_8) (i := 5) rfl)) rfl
set_option maxRecDepth 100000 in
theorem wd_1804 : (Jvm.Cond.selects "ReedOraclesModel" ({ cls := "ReedOraclesModel", name := "chords", desc := "(III)I" } : Jvm.MethodName) ({ cls := "ReedOraclesModel", name := "chords", desc := "(III)I" } : Jvm.MethodName)) ∈ zT := zT_mem (tb8 _ (List.mem_of_getElem? (l := tables_1_8) (i := 6) rfl)) rfl
set_option maxRecDepth 100000 in
theorem wd_1805 : (Jvm.Cond.code ({ cls := "ReedOraclesModel", name := "chords", desc := "(III)I" } : Jvm.MethodName) prog_14_method_74_code (8 : Nat) (Option.some Jvm.ClassFile.FieldType.int)) ∈ zT := zT_mem (tb8 _ (List.mem_of_getElem? (l := tables_1_8) (i := 7) rfl)) rfl
set_option maxRecDepth 100000 in
theorem wd_1806 : (Jvm.Cond.methodLink "ReedOraclesModel" (276 : Nat) ({ cls := "ReedOraclesModel", name := "noteByReed", desc := "(III)I" } : Jvm.MethodName)) ∈ zT := zT_mem (tb8 _ (List.mem_of_getElem? (l := tables_1_8) (i := 8) rfl)) rfl
set_option maxRecDepth 100000 in
theorem wd_1808 : (Jvm.Cond.instanceMethod ({ cls := "ReedOraclesModel", name := "noteByReed", desc := "(III)I" } : Jvm.MethodName)) ∈ zT := zT_mem (tb8 _ (List.mem_of_getElem? (l := tables_1_8) (i := 10) rfl)) rfl
set_option maxRecDepth 100000 in
theorem wd_1809 : (Jvm.Cond.code ({ cls := "ReedOraclesModel", name := "noteByReed", desc := "(III)I" } : Jvm.MethodName) prog_14_method_71_code (4 : Nat) (Option.some Jvm.ClassFile.FieldType.int)) ∈ zT := zT_mem (tb8 _ (List.mem_of_getElem? (l := tables_1_8) (i := 11) rfl)) rfl
set_option maxRecDepth 100000 in
theorem wd_1810 : (Jvm.Cond.methodLink "ReedOraclesModel" (279 : Nat) ({ cls := "ReedOraclesModel", name := "isChord", desc := "(III)Z" } : Jvm.MethodName)) ∈ zT := zT_mem (tb8 _ (List.mem_of_getElem? (l := tables_1_8) (i := 12) rfl)) rfl
set_option maxRecDepth 100000 in
theorem wd_1811 : (Jvm.Cond.static ({ cls := "ReedOraclesModel", name := "isChord", desc := "(III)Z" } : Jvm.MethodName)) ∈ zT := zT_mem (tb8 _ (List.mem_of_getElem? (l := tables_1_8) (i := 13) rfl)) rfl
set_option maxRecDepth 100000 in
theorem wd_1812 : (Jvm.Cond.code ({ cls := "ReedOraclesModel", name := "isChord", desc := "(III)Z" } : Jvm.MethodName) prog_14_method_73_code (3 : Nat) (Option.some Jvm.ClassFile.FieldType.boolean)) ∈ zT := zT_mem (tb8 _ (List.mem_of_getElem? (l := tables_1_8) (i := 14) rfl)) rfl
set_option maxRecDepth 100000 in
theorem wd_1813 : (Jvm.Cond.methodLink "ReedOraclesLaw" (142 : Nat) ({ cls := "ReedOraclesModel", name := "twins", desc := "(II)I" } : Jvm.MethodName)) ∈ zT := zT_mem (tb8 _ (List.mem_of_getElem? (l := tables_1_8) (i := 15) rfl)) rfl
set_option maxRecDepth 100000 in
theorem wd_1814 : (Jvm.Cond.instanceMethod ({ cls := "ReedOraclesModel", name := "twins", desc := "(II)I" } : Jvm.MethodName)) ∈ zT := zT_mem (tb8 _ (List.mem_of_getElem? (l := tables_1_8) (i := 16) rfl)) rfl
set_option maxRecDepth 100000 in
theorem wd_1815 : (Jvm.Cond.selects "ReedOraclesModel" ({ cls := "ReedOraclesModel", name := "twins", desc := "(II)I" } : Jvm.MethodName) ({ cls := "ReedOraclesModel", name := "twins", desc := "(II)I" } : Jvm.MethodName)) ∈ zT := zT_mem (tb8 _ (List.mem_of_getElem? (l := tables_1_8) (i := 17) rfl)) rfl
set_option maxRecDepth 100000 in
theorem wd_1816 : (Jvm.Cond.code ({ cls := "ReedOraclesModel", name := "twins", desc := "(II)I" } : Jvm.MethodName) prog_14_method_77_code (6 : Nat) (Option.some Jvm.ClassFile.FieldType.int)) ∈ zT := zT_mem (tb8 _ (List.mem_of_getElem? (l := tables_1_8) (i := 18) rfl)) rfl
set_option maxRecDepth 100000 in
theorem wd_1817 : (Jvm.Cond.methodLink "ReedOraclesModel" (282 : Nat) ({ cls := "ReedOraclesModel", name := "areTwins", desc := "(II)Z" } : Jvm.MethodName)) ∈ zT := zT_mem (tb8 _ (List.mem_of_getElem? (l := tables_1_8) (i := 19) rfl)) rfl
set_option maxRecDepth 100000 in
theorem wd_1819 : (Jvm.Cond.instanceMethod ({ cls := "ReedOraclesModel", name := "areTwins", desc := "(II)Z" } : Jvm.MethodName)) ∈ zT := zT_mem (tb8 _ (List.mem_of_getElem? (l := tables_1_8) (i := 21) rfl)) rfl
set_option maxRecDepth 100000 in
theorem wd_1820 : (Jvm.Cond.code ({ cls := "ReedOraclesModel", name := "areTwins", desc := "(II)Z" } : Jvm.MethodName) prog_14_method_75_code (6 : Nat) (Option.some Jvm.ClassFile.FieldType.boolean)) ∈ zT := zT_mem (tb8 _ (List.mem_of_getElem? (l := tables_1_8) (i := 22) rfl)) rfl
set_option maxRecDepth 100000 in
theorem wd_1821 : (Jvm.Cond.methodLink "ReedOraclesModel" (285 : Nat) ({ cls := "ReedOraclesModel", name := "cutsTo", desc := "(I)I" } : Jvm.MethodName)) ∈ zT := zT_mem (tb8 _ (List.mem_of_getElem? (l := tables_1_8) (i := 23) rfl)) rfl
set_option maxRecDepth 100000 in
theorem wd_1823 : (Jvm.Cond.instanceMethod ({ cls := "ReedOraclesModel", name := "cutsTo", desc := "(I)I" } : Jvm.MethodName)) ∈ zT := zT_mem (tb8 _ (List.mem_of_getElem? (l := tables_1_8) (i := 25) rfl)) rfl
set_option maxRecDepth 100000 in
theorem wd_1824 : (Jvm.Cond.code ({ cls := "ReedOraclesModel", name := "cutsTo", desc := "(I)I" } : Jvm.MethodName) prog_14_method_76_code (4 : Nat) (Option.some Jvm.ClassFile.FieldType.int)) ∈ zT := zT_mem (tb8 _ (List.mem_of_getElem? (l := tables_1_8) (i := 26) rfl)) rfl
set_option maxRecDepth 100000 in
theorem wd_1825 : (Jvm.Cond.methodLink "ReedOraclesLaw" (159 : Nat) ({ cls := "ReedOraclesModel", name := "owns", desc := "(IIZ)I" } : Jvm.MethodName)) ∈ zT := zT_mem (tb8 _ (List.mem_of_getElem? (l := tables_1_8) (i := 27) rfl)) rfl
set_option maxRecDepth 100000 in
theorem wd_1826 : (Jvm.Cond.instanceMethod ({ cls := "ReedOraclesModel", name := "owns", desc := "(IIZ)I" } : Jvm.MethodName)) ∈ zT := zT_mem (tb8 _ (List.mem_of_getElem? (l := tables_1_8) (i := 28) rfl)) rfl
set_option maxRecDepth 100000 in
theorem wd_1827 : (Jvm.Cond.selects "ReedOraclesModel" ({ cls := "ReedOraclesModel", name := "owns", desc := "(IIZ)I" } : Jvm.MethodName) ({ cls := "ReedOraclesModel", name := "owns", desc := "(IIZ)I" } : Jvm.MethodName)) ∈ zT := zT_mem (tb8 _ (List.mem_of_getElem? (l := tables_1_8) (i := 29) rfl)) rfl
set_option maxRecDepth 100000 in
theorem wd_1828 : (Jvm.Cond.code ({ cls := "ReedOraclesModel", name := "owns", desc := "(IIZ)I" } : Jvm.MethodName) prog_14_method_82_code (6 : Nat) (Option.some Jvm.ClassFile.FieldType.int)) ∈ zT := zT_mem (tb8 _ (List.mem_of_getElem? (l := tables_1_8) (i := 30) rfl)) rfl
set_option maxRecDepth 100000 in
theorem wd_1829 : (Jvm.Cond.methodLink "ReedOraclesModel" (297 : Nat) ({ cls := "ReedOraclesModel", name := "asksAround", desc := "()Z" } : Jvm.MethodName)) ∈ zT := zT_mem (tb8 _ (List.mem_of_getElem? (l := tables_1_8) (i := 31) rfl)) rfl
set_option maxRecDepth 100000 in
theorem wd_1831 : (Jvm.Cond.instanceMethod ({ cls := "ReedOraclesModel", name := "asksAround", desc := "()Z" } : Jvm.MethodName)) ∈ zT := zT_mem (tb8 _ (List.mem_of_getElem? (l := tables_1_8) (i := 33) rfl)) rfl
set_option maxRecDepth 100000 in
theorem wd_1832 : (Jvm.Cond.code ({ cls := "ReedOraclesModel", name := "asksAround", desc := "()Z" } : Jvm.MethodName) prog_14_method_81_code (5 : Nat) (Option.some Jvm.ClassFile.FieldType.boolean)) ∈ zT := zT_mem (tb8 _ (List.mem_of_getElem? (l := tables_1_8) (i := 34) rfl)) rfl
set_option maxRecDepth 100000 in
theorem wd_1833 : (Jvm.Cond.methodLink "ReedOraclesModel" (291 : Nat) ({ cls := "ReedOraclesModel", name := "hasAny", desc := "(I)Z" } : Jvm.MethodName)) ∈ zT := zT_mem (tb8 _ (List.mem_of_getElem? (l := tables_1_8) (i := 35) rfl)) rfl
set_option maxRecDepth 100000 in
theorem wd_1835 : (Jvm.Cond.instanceMethod ({ cls := "ReedOraclesModel", name := "hasAny", desc := "(I)Z" } : Jvm.MethodName)) ∈ zT := zT_mem (tb8 _ (List.mem_of_getElem? (l := tables_1_8) (i := 37) rfl)) rfl
set_option maxRecDepth 100000 in
theorem wd_1836 : (Jvm.Cond.code ({ cls := "ReedOraclesModel", name := "hasAny", desc := "(I)Z" } : Jvm.MethodName) prog_14_method_80_code (4 : Nat) (Option.some Jvm.ClassFile.FieldType.boolean)) ∈ zT := zT_mem (tb8 _ (List.mem_of_getElem? (l := tables_1_8) (i := 38) rfl)) rfl
set_option maxRecDepth 100000 in
theorem wd_1837 : (Jvm.Cond.methodLink "ReedOraclesModel" (294 : Nat) ({ cls := "ReedOraclesModel", name := "wishOf", desc := "(I)I" } : Jvm.MethodName)) ∈ zT := zT_mem (tb8 _ (List.mem_of_getElem? (l := tables_1_8) (i := 39) rfl)) rfl
set_option maxRecDepth 100000 in
theorem wd_1839 : (Jvm.Cond.instanceMethod ({ cls := "ReedOraclesModel", name := "wishOf", desc := "(I)I" } : Jvm.MethodName)) ∈ zT := zT_mem (tb8 _ (List.mem_of_getElem? (l := tables_1_8) (i := 41) rfl)) rfl
set_option maxRecDepth 100000 in
theorem wd_1840 : (Jvm.Cond.code ({ cls := "ReedOraclesModel", name := "wishOf", desc := "(I)I" } : Jvm.MethodName) prog_14_method_79_code (4 : Nat) (Option.some Jvm.ClassFile.FieldType.int)) ∈ zT := zT_mem (tb8 _ (List.mem_of_getElem? (l := tables_1_8) (i := 42) rfl)) rfl
set_option maxRecDepth 100000 in
theorem wd_1841 : (Jvm.Cond.methodLink "ReedOraclesModel" (288 : Nat) ({ cls := "ReedOraclesModel", name := "soundsBy", desc := "(II)I" } : Jvm.MethodName)) ∈ zT := zT_mem (tb8 _ (List.mem_of_getElem? (l := tables_1_8) (i := 43) rfl)) rfl
set_option maxRecDepth 100000 in
theorem wd_1843 : (Jvm.Cond.instanceMethod ({ cls := "ReedOraclesModel", name := "soundsBy", desc := "(II)I" } : Jvm.MethodName)) ∈ zT := zT_mem (tb8 _ (List.mem_of_getElem? (l := tables_1_8) (i := 45) rfl)) rfl
set_option maxRecDepth 100000 in
theorem wd_1844 : (Jvm.Cond.code ({ cls := "ReedOraclesModel", name := "soundsBy", desc := "(II)I" } : Jvm.MethodName) prog_14_method_78_code (5 : Nat) (Option.some Jvm.ClassFile.FieldType.int)) ∈ zT := zT_mem (tb8 _ (List.mem_of_getElem? (l := tables_1_8) (i := 46) rfl)) rfl
set_option maxRecDepth 100000 in
theorem wd_1845 : (Jvm.Cond.methodLink "ReedOraclesLaw" (163 : Nat) ({ cls := "ReedOraclesModel", name := "wets", desc := "(II)I" } : Jvm.MethodName)) ∈ zT := zT_mem (tb8 _ (List.mem_of_getElem? (l := tables_1_8) (i := 47) rfl)) rfl
set_option maxRecDepth 100000 in
theorem wd_1846 : (Jvm.Cond.instanceMethod ({ cls := "ReedOraclesModel", name := "wets", desc := "(II)I" } : Jvm.MethodName)) ∈ zT := zT_mem (tb8 _ (List.mem_of_getElem? (l := tables_1_8) (i := 48) rfl)) rfl
set_option maxRecDepth 100000 in
theorem wd_1847 : (Jvm.Cond.selects "ReedOraclesModel" ({ cls := "ReedOraclesModel", name := "wets", desc := "(II)I" } : Jvm.MethodName) ({ cls := "ReedOraclesModel", name := "wets", desc := "(II)I" } : Jvm.MethodName)) ∈ zT := zT_mem (tb8 _ (List.mem_of_getElem? (l := tables_1_8) (i := 49) rfl)) rfl
set_option maxRecDepth 100000 in
theorem wd_1848 : (Jvm.Cond.code ({ cls := "ReedOraclesModel", name := "wets", desc := "(II)I" } : Jvm.MethodName) prog_14_method_83_code (7 : Nat) (Option.some Jvm.ClassFile.FieldType.int)) ∈ zT := zT_mem (tb8 _ (List.mem_of_getElem? (l := tables_1_8) (i := 50) rfl)) rfl
set_option maxRecDepth 100000 in
theorem wd_1849 : (Jvm.Cond.methodLink "ReedOraclesLaw" (167 : Nat) ({ cls := "ReedOraclesModel", name := "clearest", desc := "(IIZ)I" } : Jvm.MethodName)) ∈ zT := zT_mem (tb8 _ (List.mem_of_getElem? (l := tables_1_8) (i := 51) rfl)) rfl
set_option maxRecDepth 100000 in
theorem wd_1850 : (Jvm.Cond.instanceMethod ({ cls := "ReedOraclesModel", name := "clearest", desc := "(IIZ)I" } : Jvm.MethodName)) ∈ zT := zT_mem (tb8 _ (List.mem_of_getElem? (l := tables_1_8) (i := 52) rfl)) rfl
set_option maxRecDepth 100000 in
theorem wd_1851 : (Jvm.Cond.selects "ReedOraclesModel" ({ cls := "ReedOraclesModel", name := "clearest", desc := "(IIZ)I" } : Jvm.MethodName) ({ cls := "ReedOraclesModel", name := "clearest", desc := "(IIZ)I" } : Jvm.MethodName)) ∈ zT := zT_mem (tb8 _ (List.mem_of_getElem? (l := tables_1_8) (i := 53) rfl)) rfl
set_option maxRecDepth 100000 in
theorem wd_1852 : (Jvm.Cond.code ({ cls := "ReedOraclesModel", name := "clearest", desc := "(IIZ)I" } : Jvm.MethodName) prog_14_method_85_code (6 : Nat) (Option.some Jvm.ClassFile.FieldType.int)) ∈ zT := zT_mem (tb8 _ (List.mem_of_getElem? (l := tables_1_8) (i := 54) rfl)) rfl
set_option maxRecDepth 100000 in
theorem wd_1853 : (Jvm.Cond.methodLink "ReedOraclesModel" (301 : Nat) ({ cls := "ReedOraclesModel", name := "clearBy", desc := "(II)I" } : Jvm.MethodName)) ∈ zT := zT_mem (tb8 _ (List.mem_of_getElem? (l := tables_1_8) (i := 55) rfl)) rfl
set_option maxRecDepth 100000 in
theorem wd_1855 : (Jvm.Cond.instanceMethod ({ cls := "ReedOraclesModel", name := "clearBy", desc := "(II)I" } : Jvm.MethodName)) ∈ zT := zT_mem (tb8 _ (List.mem_of_getElem? (l := tables_1_8) (i := 57) rfl)) rfl
set_option maxRecDepth 100000 in
theorem wd_1856 : (Jvm.Cond.code ({ cls := "ReedOraclesModel", name := "clearBy", desc := "(II)I" } : Jvm.MethodName) prog_14_method_84_code (7 : Nat) (Option.some Jvm.ClassFile.FieldType.int)) ∈ zT := zT_mem (tb8 _ (List.mem_of_getElem? (l := tables_1_8) (i := 58) rfl)) rfl
set_option maxRecDepth 100000 in
theorem wd_1857 : (Jvm.Cond.methodLink "ReedOraclesLaw" (146 : Nat) ({ cls := "ReedOraclesModel", name := "fairest", desc := "(IIZ)I" } : Jvm.MethodName)) ∈ zT := zT_mem (tb8 _ (List.mem_of_getElem? (l := tables_1_8) (i := 59) rfl)) rfl
set_option maxRecDepth 100000 in
theorem wd_1858 : (Jvm.Cond.instanceMethod ({ cls := "ReedOraclesModel", name := "fairest", desc := "(IIZ)I" } : Jvm.MethodName)) ∈ zT := zT_mem (tb8 _ (List.mem_of_getElem? (l := tables_1_8) (i := 60) rfl)) rfl
set_option maxRecDepth 100000 in
theorem wd_1859 : (Jvm.Cond.selects "ReedOraclesModel" ({ cls := "ReedOraclesModel", name := "fairest", desc := "(IIZ)I" } : Jvm.MethodName) ({ cls := "ReedOraclesModel", name := "fairest", desc := "(IIZ)I" } : Jvm.MethodName)) ∈ zT := zT_mem (tb8 _ (List.mem_of_getElem? (l := tables_1_8) (i := 61) rfl)) rfl
set_option maxRecDepth 100000 in
theorem wd_1860 : (Jvm.Cond.code ({ cls := "ReedOraclesModel", name := "fairest", desc := "(IIZ)I" } : Jvm.MethodName) prog_14_method_87_code (6 : Nat) (Option.some Jvm.ClassFile.FieldType.int)) ∈ zT := zT_mem (tb8 _ (List.mem_of_getElem? (l := tables_1_8) (i := 62) rfl)) rfl
set_option maxRecDepth 100000 in
theorem wd_1861 : (Jvm.Cond.methodLink "ReedOraclesModel" (304 : Nat) ({ cls := "ReedOraclesModel", name := "fairBy", desc := "(II)I" } : Jvm.MethodName)) ∈ zT := zT_mem (tb8 _ (List.mem_of_getElem? (l := tables_1_8) (i := 63) rfl)) rfl
set_option maxRecDepth 100000 in
theorem wd_1863 : (Jvm.Cond.instanceMethod ({ cls := "ReedOraclesModel", name := "fairBy", desc := "(II)I" } : Jvm.MethodName)) ∈ zT := zT_mem (tb8 _ (List.mem_of_getElem? (l := tables_1_8) (i := 65) rfl)) rfl
set_option maxRecDepth 100000 in
theorem wd_1864 : (Jvm.Cond.code ({ cls := "ReedOraclesModel", name := "fairBy", desc := "(II)I" } : Jvm.MethodName) prog_14_method_86_code (7 : Nat) (Option.some Jvm.ClassFile.FieldType.int)) ∈ zT := zT_mem (tb8 _ (List.mem_of_getElem? (l := tables_1_8) (i := 66) rfl)) rfl
set_option maxRecDepth 100000 in
theorem wd_1865 : (Jvm.Cond.methodLink "ReedOraclesLaw" (45 : Nat) ({ cls := "ReedOraclesModel", name := "deed", desc := "(III)I" } : Jvm.MethodName)) ∈ zT := zT_mem (tb8 _ (List.mem_of_getElem? (l := tables_1_8) (i := 67) rfl)) rfl
set_option maxRecDepth 100000 in
theorem wd_1866 : (Jvm.Cond.instanceMethod ({ cls := "ReedOraclesModel", name := "deed", desc := "(III)I" } : Jvm.MethodName)) ∈ zT := zT_mem (tb8 _ (List.mem_of_getElem? (l := tables_1_8) (i := 68) rfl)) rfl
set_option maxRecDepth 100000 in
theorem wd_1867 : (Jvm.Cond.selects "ReedOraclesModel" ({ cls := "ReedOraclesModel", name := "deed", desc := "(III)I" } : Jvm.MethodName) ({ cls := "ReedOraclesModel", name := "deed", desc := "(III)I" } : Jvm.MethodName)) ∈ zT := zT_mem (tb8 _ (List.mem_of_getElem? (l := tables_1_8) (i := 69) rfl)) rfl
set_option maxRecDepth 100000 in
theorem wd_1868 : (Jvm.Cond.code ({ cls := "ReedOraclesModel", name := "deed", desc := "(III)I" } : Jvm.MethodName) prog_14_method_89_code (4 : Nat) (Option.some Jvm.ClassFile.FieldType.int)) ∈ zT := zT_mem (tb8 _ (List.mem_of_getElem? (l := tables_1_8) (i := 70) rfl)) rfl
set_option maxRecDepth 100000 in
theorem wd_1869 : (Jvm.Cond.methodLink "ReedOraclesModel" (310 : Nat) ({ cls := "ReedOraclesModel", name := "isYear", desc := "(I)Z" } : Jvm.MethodName)) ∈ zT := zT_mem (tb8 _ (List.mem_of_getElem? (l := tables_1_8) (i := 71) rfl)) rfl
set_option maxRecDepth 100000 in
theorem wd_1871 : (Jvm.Cond.instanceMethod ({ cls := "ReedOraclesModel", name := "isYear", desc := "(I)Z" } : Jvm.MethodName)) ∈ zT := zT_mem (tb8 _ (List.mem_of_getElem? (l := tables_1_8) (i := 73) rfl)) rfl
set_option maxRecDepth 100000 in
theorem wd_1872 : (Jvm.Cond.code ({ cls := "ReedOraclesModel", name := "isYear", desc := "(I)Z" } : Jvm.MethodName) prog_14_method_88_code (2 : Nat) (Option.some Jvm.ClassFile.FieldType.boolean)) ∈ zT := zT_mem (tb8 _ (List.mem_of_getElem? (l := tables_1_8) (i := 74) rfl)) rfl
set_option maxRecDepth 100000 in
theorem wd_1873 : (Jvm.Cond.methodLink "ReedOraclesLaw" (49 : Nat) ({ cls := "ReedOraclesModel", name := "stop", desc := "(II)I" } : Jvm.MethodName)) ∈ zT := zT_mem (tb8 _ (List.mem_of_getElem? (l := tables_1_8) (i := 75) rfl)) rfl
set_option maxRecDepth 100000 in
theorem wd_1874 : (Jvm.Cond.instanceMethod ({ cls := "ReedOraclesModel", name := "stop", desc := "(II)I" } : Jvm.MethodName)) ∈ zT := zT_mem (tb8 _ (List.mem_of_getElem? (l := tables_1_8) (i := 76) rfl)) rfl
set_option maxRecDepth 100000 in
theorem wd_1875 : (Jvm.Cond.selects "ReedOraclesModel" ({ cls := "ReedOraclesModel", name := "stop", desc := "(II)I" } : Jvm.MethodName) ({ cls := "ReedOraclesModel", name := "stop", desc := "(II)I" } : Jvm.MethodName)) ∈ zT := zT_mem (tb8 _ (List.mem_of_getElem? (l := tables_1_8) (i := 77) rfl)) rfl
set_option maxRecDepth 100000 in
theorem wd_1876 : (Jvm.Cond.code ({ cls := "ReedOraclesModel", name := "stop", desc := "(II)I" } : Jvm.MethodName) prog_14_method_101_code (3 : Nat) (Option.some Jvm.ClassFile.FieldType.int)) ∈ zT := zT_mem (tb8 _ (List.mem_of_getElem? (l := tables_1_8) (i := 78) rfl)) rfl
set_option maxRecDepth 100000 in
theorem wd_1877 : (Jvm.Cond.methodLink "ReedOraclesModel" (373 : Nat) ({ cls := "ReedOraclesModel", name := "runs", desc := "(I)V" } : Jvm.MethodName)) ∈ zT := zT_mem (tb8 _ (List.mem_of_getElem? (l := tables_1_8) (i := 79) rfl)) rfl
set_option maxRecDepth 100000 in
theorem wd_1879 : (Jvm.Cond.instanceMethod ({ cls := "ReedOraclesModel", name := "runs", desc := "(I)V" } : Jvm.MethodName)) ∈ zT := zT_mem (tb8 _ (List.mem_of_getElem? (l := tables_1_8) (i := 81) rfl)) rfl
set_option maxRecDepth 100000 in
theorem wd_1880 : (Jvm.Cond.code ({ cls := "ReedOraclesModel", name := "runs", desc := "(I)V" } : Jvm.MethodName) prog_14_method_100_code (2 : Nat) (Option.none : Option Jvm.ClassFile.FieldType)) ∈ zT := zT_mem (tb8 _ (List.mem_of_getElem? (l := tables_1_8) (i := 82) rfl)) rfl
set_option maxRecDepth 100000 in
theorem wd_1881 : (Jvm.Cond.methodLink "ReedOraclesModel" (367 : Nat) ({ cls := "ReedOraclesModel", name := "begins", desc := "()V" } : Jvm.MethodName)) ∈ zT := zT_mem (tb8 _ (List.mem_of_getElem? (l := tables_1_8) (i := 83) rfl)) rfl
set_option maxRecDepth 100000 in
theorem wd_1883 : (Jvm.Cond.instanceMethod ({ cls := "ReedOraclesModel", name := "begins", desc := "()V" } : Jvm.MethodName)) ∈ zT := zT_mem (tb8 _ (List.mem_of_getElem? (l := tables_1_8) (i := 85) rfl)) rfl
set_option maxRecDepth 100000 in
theorem wd_1884 : (Jvm.Cond.code ({ cls := "ReedOraclesModel", name := "begins", desc := "()V" } : Jvm.MethodName) prog_14_method_90_code (2 : Nat) (Option.none : Option Jvm.ClassFile.FieldType)) ∈ zT := zT_mem (tb8 _ (List.mem_of_getElem? (l := tables_1_8) (i := 86) rfl)) rfl
set_option maxRecDepth 100000 in
theorem wd_1885 : (Jvm.Cond.methodLink "ReedOraclesModel" (370 : Nat) ({ cls := "ReedOraclesModel", name := "doesTold", desc := "(I)Z" } : Jvm.MethodName)) ∈ zT := zT_mem (tb8 _ (List.mem_of_getElem? (l := tables_1_8) (i := 87) rfl)) rfl
set_option maxRecDepth 100000 in
theorem wd_1887 : (Jvm.Cond.instanceMethod ({ cls := "ReedOraclesModel", name := "doesTold", desc := "(I)Z" } : Jvm.MethodName)) ∈ zT := zT_mem (tb8 _ (List.mem_of_getElem? (l := tables_1_8) (i := 89) rfl)) rfl
set_option maxRecDepth 100000 in
theorem wd_1888 : (Jvm.Cond.code ({ cls := "ReedOraclesModel", name := "doesTold", desc := "(I)Z" } : Jvm.MethodName) prog_14_method_99_code (3 : Nat) (Option.some Jvm.ClassFile.FieldType.boolean)) ∈ zT := zT_mem (tb8 _ (List.mem_of_getElem? (l := tables_1_8) (i := 90) rfl)) rfl
set_option maxRecDepth 100000 in
theorem wd_1889 : (Jvm.Cond.methodLink "ReedOraclesModel" (363 : Nat) ({ cls := "ReedOraclesModel", name := "does", desc := "(IIIIII)Z" } : Jvm.MethodName)) ∈ zT := zT_mem (tb8 _ (List.mem_of_getElem? (l := tables_1_8) (i := 91) rfl)) rfl
set_option maxRecDepth 100000 in
theorem wd_1891 : (Jvm.Cond.instanceMethod ({ cls := "ReedOraclesModel", name := "does", desc := "(IIIIII)Z" } : Jvm.MethodName)) ∈ zT := zT_mem (tb8 _ (List.mem_of_getElem? (l := tables_1_8) (i := 93) rfl)) rfl
set_option maxRecDepth 100000 in
theorem wd_1892 : (Jvm.Cond.code ({ cls := "ReedOraclesModel", name := "does", desc := "(IIIIII)Z" } : Jvm.MethodName) prog_14_method_98_code (7 : Nat) (Option.some Jvm.ClassFile.FieldType.boolean)) ∈ zT := zT_mem (tb8 _ (List.mem_of_getElem? (l := tables_1_8) (i := 94) rfl)) rfl
set_option maxRecDepth 100000 in
theorem wd_1893 : (Jvm.Cond.methodLink "ReedOraclesModel" (349 : Nat) ({ cls := "ReedOraclesModel", name := "asks", desc := "(III)Z" } : Jvm.MethodName)) ∈ zT := zT_mem (tb8 _ (List.mem_of_getElem? (l := tables_1_8) (i := 95) rfl)) rfl
set_option maxRecDepth 100000 in
theorem wd_1895 : (Jvm.Cond.instanceMethod ({ cls := "ReedOraclesModel", name := "asks", desc := "(III)Z" } : Jvm.MethodName)) ∈ zT := zT_mem (tb8 _ (List.mem_of_getElem? (l := tables_1_8) (i := 97) rfl)) rfl
set_option maxRecDepth 100000 in
theorem wd_1896 : (Jvm.Cond.code ({ cls := "ReedOraclesModel", name := "asks", desc := "(III)Z" } : Jvm.MethodName) prog_14_method_94_code (5 : Nat) (Option.some Jvm.ClassFile.FieldType.boolean)) ∈ zT := zT_mem (tb8 _ (List.mem_of_getElem? (l := tables_1_8) (i := 98) rfl)) rfl
set_option maxRecDepth 100000 in
theorem wd_1897 : (Jvm.Cond.methodLink "ReedOraclesModel" (340 : Nat) ({ cls := "ReedOraclesModel", name := "isWhole", desc := "(I)Z" } : Jvm.MethodName)) ∈ zT := zT_mem (tb8 _ (List.mem_of_getElem? (l := tables_1_8) (i := 99) rfl)) rfl
set_option maxRecDepth 100000 in
theorem wd_1899 : (Jvm.Cond.instanceMethod ({ cls := "ReedOraclesModel", name := "isWhole", desc := "(I)Z" } : Jvm.MethodName)) ∈ zT := zT_mem (tb8 _ (List.mem_of_getElem? (l := tables_1_8) (i := 101) rfl)) rfl
set_option maxRecDepth 100000 in
theorem wd_1900 : (Jvm.Cond.code ({ cls := "ReedOraclesModel", name := "isWhole", desc := "(I)Z" } : Jvm.MethodName) prog_14_method_91_code (2 : Nat) (Option.some Jvm.ClassFile.FieldType.boolean)) ∈ zT := zT_mem (tb8 _ (List.mem_of_getElem? (l := tables_1_8) (i := 102) rfl)) rfl
set_option maxRecDepth 100000 in
theorem wd_1901 : (Jvm.Cond.methodLink "ReedOraclesModel" (343 : Nat) ({ cls := "ReedOraclesModel", name := "mayPlay", desc := "(I)Z" } : Jvm.MethodName)) ∈ zT := zT_mem (tb8 _ (List.mem_of_getElem? (l := tables_1_8) (i := 103) rfl)) rfl
set_option maxRecDepth 100000 in
theorem wd_1903 : (Jvm.Cond.instanceMethod ({ cls := "ReedOraclesModel", name := "mayPlay", desc := "(I)Z" } : Jvm.MethodName)) ∈ zT := zT_mem (tb8 _ (List.mem_of_getElem? (l := tables_1_8) (i := 105) rfl)) rfl
set_option maxRecDepth 100000 in
theorem wd_1904 : (Jvm.Cond.code ({ cls := "ReedOraclesModel", name := "mayPlay", desc := "(I)Z" } : Jvm.MethodName) prog_14_method_92_code (2 : Nat) (Option.some Jvm.ClassFile.FieldType.boolean)) ∈ zT := zT_mem (tb8 _ (List.mem_of_getElem? (l := tables_1_8) (i := 106) rfl)) rfl
set_option maxRecDepth 100000 in
theorem wd_1905 : (Jvm.Cond.methodLink "ReedOraclesModel" (346 : Nat) ({ cls := "ReedOraclesModel", name := "plays", desc := "(III)I" } : Jvm.MethodName)) ∈ zT := zT_mem (tb8 _ (List.mem_of_getElem? (l := tables_1_8) (i := 107) rfl)) rfl
set_option maxRecDepth 100000 in
theorem wd_1907 : (Jvm.Cond.instanceMethod ({ cls := "ReedOraclesModel", name := "plays", desc := "(III)I" } : Jvm.MethodName)) ∈ zT := zT_mem (tb8 _ (List.mem_of_getElem? (l := tables_1_8) (i := 109) rfl)) rfl
set_option maxRecDepth 100000 in
theorem wd_1908 : (Jvm.Cond.code ({ cls := "ReedOraclesModel", name := "plays", desc := "(III)I" } : Jvm.MethodName) prog_14_method_93_code (5 : Nat) (Option.some Jvm.ClassFile.FieldType.int)) ∈ zT := zT_mem (tb8 _ (List.mem_of_getElem? (l := tables_1_8) (i := 110) rfl)) rfl
set_option maxRecDepth 100000 in
theorem wd_1909 : (Jvm.Cond.methodLink "ReedOraclesModel" (352 : Nat) ({ cls := "ReedOraclesModel", name := "duets", desc := "(IIIII)Z" } : Jvm.MethodName)) ∈ zT := zT_mem (tb8 _ (List.mem_of_getElem? (l := tables_1_8) (i := 111) rfl)) rfl
set_option maxRecDepth 100000 in
theorem wd_1911 : (Jvm.Cond.instanceMethod ({ cls := "ReedOraclesModel", name := "duets", desc := "(IIIII)Z" } : Jvm.MethodName)) ∈ zT := zT_mem (tb8 _ (List.mem_of_getElem? (l := tables_1_8) (i := 113) rfl)) rfl
set_option maxRecDepth 100000 in
theorem wd_1912 : (Jvm.Cond.code ({ cls := "ReedOraclesModel", name := "duets", desc := "(IIIII)Z" } : Jvm.MethodName) prog_14_method_95_code (8 : Nat) (Option.some Jvm.ClassFile.FieldType.boolean)) ∈ zT := zT_mem (tb8 _ (List.mem_of_getElem? (l := tables_1_8) (i := 114) rfl)) rfl
set_option maxRecDepth 100000 in
theorem wd_1913 : (Jvm.Cond.methodLink "ReedOraclesModel" (356 : Nat) ({ cls := "ReedOraclesModel", name := "treats", desc := "(IZ)Z" } : Jvm.MethodName)) ∈ zT := zT_mem (tb8 _ (List.mem_of_getElem? (l := tables_1_8) (i := 115) rfl)) rfl
set_option maxRecDepth 100000 in
theorem wd_1915 : (Jvm.Cond.instanceMethod ({ cls := "ReedOraclesModel", name := "treats", desc := "(IZ)Z" } : Jvm.MethodName)) ∈ zT := zT_mem (tb8 _ (List.mem_of_getElem? (l := tables_1_8) (i := 117) rfl)) rfl
set_option maxRecDepth 100000 in
theorem wd_1916 : (Jvm.Cond.code ({ cls := "ReedOraclesModel", name := "treats", desc := "(IZ)Z" } : Jvm.MethodName) prog_14_method_96_code (3 : Nat) (Option.some Jvm.ClassFile.FieldType.boolean)) ∈ zT := zT_mem (tb8 _ (List.mem_of_getElem? (l := tables_1_8) (i := 118) rfl)) rfl
set_option maxRecDepth 100000 in
theorem wd_1917 : (Jvm.Cond.methodLink "ReedOraclesModel" (360 : Nat) ({ cls := "ReedOraclesModel", name := "sleeps", desc := "()Z" } : Jvm.MethodName)) ∈ zT := zT_mem (tb8 _ (List.mem_of_getElem? (l := tables_1_8) (i := 119) rfl)) rfl
set_option maxRecDepth 100000 in
theorem wd_1919 : (Jvm.Cond.instanceMethod ({ cls := "ReedOraclesModel", name := "sleeps", desc := "()Z" } : Jvm.MethodName)) ∈ zT := zT_mem (tb8 _ (List.mem_of_getElem? (l := tables_1_8) (i := 121) rfl)) rfl
set_option maxRecDepth 100000 in
theorem wd_1920 : (Jvm.Cond.code ({ cls := "ReedOraclesModel", name := "sleeps", desc := "()Z" } : Jvm.MethodName) prog_14_method_97_code (2 : Nat) (Option.some Jvm.ClassFile.FieldType.boolean)) ∈ zT := zT_mem (tb8 _ (List.mem_of_getElem? (l := tables_1_8) (i := 122) rfl)) rfl
set_option maxRecDepth 100000 in
theorem wd_1921 : (Jvm.Cond.methodLink "ReedOraclesLaw" (150 : Nat) ({ cls := "ReedOraclesModel", name := "after", desc := "(III)I" } : Jvm.MethodName)) ∈ zT := zT_mem (tb8 _ (List.mem_of_getElem? (l := tables_1_8) (i := 123) rfl)) rfl
set_option maxRecDepth 100000 in
theorem wd_1922 : (Jvm.Cond.instanceMethod ({ cls := "ReedOraclesModel", name := "after", desc := "(III)I" } : Jvm.MethodName)) ∈ zT := zT_mem (tb8 _ (List.mem_of_getElem? (l := tables_1_8) (i := 124) rfl)) rfl
set_option maxRecDepth 100000 in
theorem wd_1923 : (Jvm.Cond.selects "ReedOraclesModel" ({ cls := "ReedOraclesModel", name := "after", desc := "(III)I" } : Jvm.MethodName) ({ cls := "ReedOraclesModel", name := "after", desc := "(III)I" } : Jvm.MethodName)) ∈ zT := zT_mem (tb8 _ (List.mem_of_getElem? (l := tables_1_8) (i := 125) rfl)) rfl
set_option maxRecDepth 100000 in
theorem wd_1924 : (Jvm.Cond.code ({ cls := "ReedOraclesModel", name := "after", desc := "(III)I" } : Jvm.MethodName) prog_14_method_103_code (7 : Nat) (Option.some Jvm.ClassFile.FieldType.int)) ∈ zT := zT_mem (tb8 _ (List.mem_of_getElem? (l := tables_1_8) (i := 126) rfl)) rfl
set_option maxRecDepth 100000 in
theorem wd_1925 : (Jvm.Cond.methodLink "ReedOraclesModel" (376 : Nat) ({ cls := "ReedOraclesModel", name := "mostOf", desc := "([II)I" } : Jvm.MethodName)) ∈ zT := zT_mem (tb8 _ (List.mem_of_getElem? (l := tables_1_8) (i := 127) rfl)) rfl
set_option maxRecDepth 100000 in
theorem wd_1926 : (Jvm.Cond.static ({ cls := "ReedOraclesModel", name := "mostOf", desc := "([II)I" } : Jvm.MethodName)) ∈ zT := zT_mem (tb8 _ (List.mem_of_getElem? (l := tables_1_8) (i := 128) rfl)) rfl
set_option maxRecDepth 100000 in
theorem wd_1927 : (Jvm.Cond.code ({ cls := "ReedOraclesModel", name := "mostOf", desc := "([II)I" } : Jvm.MethodName) prog_14_method_102_code (4 : Nat) (Option.some Jvm.ClassFile.FieldType.int)) ∈ zT := zT_mem (tb8 _ (List.mem_of_getElem? (l := tables_1_8) (i := 129) rfl)) rfl
set_option maxRecDepth 100000 in
theorem wd_1928 : (Jvm.Cond.methodLink "ReedOraclesLaw" (54 : Nat) ({ cls := "ReedOraclesModel", name := "state", desc := "(IIII)I" } : Jvm.MethodName)) ∈ zT := zT_mem (tb8 _ (List.mem_of_getElem? (l := tables_1_8) (i := 130) rfl)) rfl
set_option maxRecDepth 100000 in
theorem wd_1929 : (Jvm.Cond.instanceMethod ({ cls := "ReedOraclesModel", name := "state", desc := "(IIII)I" } : Jvm.MethodName)) ∈ zT := zT_mem (tb8 _ (List.mem_of_getElem? (l := tables_1_8) (i := 131) rfl)) rfl
set_option maxRecDepth 100000 in
theorem wd_1930 : (Jvm.Cond.selects "ReedOraclesModel" ({ cls := "ReedOraclesModel", name := "state", desc := "(IIII)I" } : Jvm.MethodName) ({ cls := "ReedOraclesModel", name := "state", desc := "(IIII)I" } : Jvm.MethodName)) ∈ zT := zT_mem (tb8 _ (List.mem_of_getElem? (l := tables_1_8) (i := 132) rfl)) rfl
set_option maxRecDepth 100000 in
theorem wd_1931 : (Jvm.Cond.code ({ cls := "ReedOraclesModel", name := "state", desc := "(IIII)I" } : Jvm.MethodName) prog_14_method_105_code (5 : Nat) (Option.some Jvm.ClassFile.FieldType.int)) ∈ zT := zT_mem (tb8 _ (List.mem_of_getElem? (l := tables_1_8) (i := 133) rfl)) rfl
set_option maxRecDepth 100000 in
theorem wd_1932 : (Jvm.Cond.methodLink "ReedOraclesModel" (380 : Nat) ({ cls := "ReedOraclesModel", name := "nowOf", desc := "(I)I" } : Jvm.MethodName)) ∈ zT := zT_mem (tb8 _ (List.mem_of_getElem? (l := tables_1_8) (i := 134) rfl)) rfl
set_option maxRecDepth 100000 in
theorem wd_1934 : (Jvm.Cond.instanceMethod ({ cls := "ReedOraclesModel", name := "nowOf", desc := "(I)I" } : Jvm.MethodName)) ∈ zT := zT_mem (tb8 _ (List.mem_of_getElem? (l := tables_1_8) (i := 136) rfl)) rfl
set_option maxRecDepth 100000 in
theorem wd_1935 : (Jvm.Cond.code ({ cls := "ReedOraclesModel", name := "nowOf", desc := "(I)I" } : Jvm.MethodName) prog_14_method_104_code (3 : Nat) (Option.some Jvm.ClassFile.FieldType.int)) ∈ zT := zT_mem (tb8 _ (List.mem_of_getElem? (l := tables_1_8) (i := 137) rfl)) rfl
set_option maxRecDepth 100000 in
theorem wd_1936 : (Jvm.Cond.methodLink "ReedOraclesLaw" (88 : Nat) ({ cls := "ReedOraclesModel", name := "fact", desc := "(III)I" } : Jvm.MethodName)) ∈ zT := zT_mem (tb8 _ (List.mem_of_getElem? (l := tables_1_8) (i := 138) rfl)) rfl
set_option maxRecDepth 100000 in
theorem wd_1937 : (Jvm.Cond.instanceMethod ({ cls := "ReedOraclesModel", name := "fact", desc := "(III)I" } : Jvm.MethodName)) ∈ zT := zT_mem (tb8 _ (List.mem_of_getElem? (l := tables_1_8) (i := 139) rfl)) rfl
set_option maxRecDepth 100000 in
theorem wd_1938 : (Jvm.Cond.selects "ReedOraclesModel" ({ cls := "ReedOraclesModel", name := "fact", desc := "(III)I" } : Jvm.MethodName) ({ cls := "ReedOraclesModel", name := "fact", desc := "(III)I" } : Jvm.MethodName)) ∈ zT := zT_mem (tb8 _ (List.mem_of_getElem? (l := tables_1_8) (i := 140) rfl)) rfl
set_option maxRecDepth 100000 in
theorem wd_1939 : (Jvm.Cond.code ({ cls := "ReedOraclesModel", name := "fact", desc := "(III)I" } : Jvm.MethodName) prog_14_method_107_code (4 : Nat) (Option.some Jvm.ClassFile.FieldType.int)) ∈ zT := zT_mem (tb8 _ (List.mem_of_getElem? (l := tables_1_8) (i := 141) rfl)) rfl
set_option maxRecDepth 100000 in
theorem wd_1940 : (Jvm.Cond.methodLink "ReedOraclesModel" (386 : Nat) ({ cls := "ReedOraclesModel", name := "isLog", desc := "(I)Z" } : Jvm.MethodName)) ∈ zT := zT_mem (tb8 _ (List.mem_of_getElem? (l := tables_1_8) (i := 142) rfl)) rfl
set_option maxRecDepth 100000 in
theorem wd_1942 : (Jvm.Cond.instanceMethod ({ cls := "ReedOraclesModel", name := "isLog", desc := "(I)Z" } : Jvm.MethodName)) ∈ zT := zT_mem (tb8 _ (List.mem_of_getElem? (l := tables_1_8) (i := 144) rfl)) rfl
set_option maxRecDepth 100000 in
theorem wd_1943 : (Jvm.Cond.code ({ cls := "ReedOraclesModel", name := "isLog", desc := "(I)Z" } : Jvm.MethodName) prog_14_method_106_code (2 : Nat) (Option.some Jvm.ClassFile.FieldType.boolean)) ∈ zT := zT_mem (tb8 _ (List.mem_of_getElem? (l := tables_1_8) (i := 145) rfl)) rfl
set_option maxRecDepth 100000 in
theorem wd_1944 : (Jvm.Cond.methodLink "ReedOraclesLaw" (92 : Nat) ({ cls := "ReedOraclesModel", name := "fits", desc := "(III)I" } : Jvm.MethodName)) ∈ zT := zT_mem (tb8 _ (List.mem_of_getElem? (l := tables_1_8) (i := 146) rfl)) rfl
set_option maxRecDepth 100000 in
theorem wd_1945 : (Jvm.Cond.instanceMethod ({ cls := "ReedOraclesModel", name := "fits", desc := "(III)I" } : Jvm.MethodName)) ∈ zT := zT_mem (tb8 _ (List.mem_of_getElem? (l := tables_1_8) (i := 147) rfl)) rfl
set_option maxRecDepth 100000 in
theorem wd_1946 : (Jvm.Cond.selects "ReedOraclesModel" ({ cls := "ReedOraclesModel", name := "fits", desc := "(III)I" } : Jvm.MethodName) ({ cls := "ReedOraclesModel", name := "fits", desc := "(III)I" } : Jvm.MethodName)) ∈ zT := zT_mem (tb8 _ (List.mem_of_getElem? (l := tables_1_8) (i := 148) rfl)) rfl
set_option maxRecDepth 100000 in
theorem wd_1947 : (Jvm.Cond.code ({ cls := "ReedOraclesModel", name := "fits", desc := "(III)I" } : Jvm.MethodName) prog_14_method_114_code (8 : Nat) (Option.some Jvm.ClassFile.FieldType.int)) ∈ zT := zT_mem (tb8 _ (List.mem_of_getElem? (l := tables_1_8) (i := 149) rfl)) rfl
set_option maxRecDepth 100000 in
theorem wd_1948 : (Jvm.Cond.methodLink "ReedOraclesModel" (398 : Nat) ({ cls := "ReedOraclesModel", name := "areThere", desc := "()Z" } : Jvm.MethodName)) ∈ zT := zT_mem (tb8 _ (List.mem_of_getElem? (l := tables_1_8) (i := 150) rfl)) rfl
set_option maxRecDepth 100000 in
theorem wd_1950 : (Jvm.Cond.instanceMethod ({ cls := "ReedOraclesModel", name := "areThere", desc := "()Z" } : Jvm.MethodName)) ∈ zT := zT_mem (tb8 _ (List.mem_of_getElem? (l := tables_1_8) (i := 152) rfl)) rfl
set_option maxRecDepth 100000 in
theorem wd_1951 : (Jvm.Cond.code ({ cls := "ReedOraclesModel", name := "areThere", desc := "()Z" } : Jvm.MethodName) prog_14_method_110_code (3 : Nat) (Option.some Jvm.ClassFile.FieldType.boolean)) ∈ zT := zT_mem (tb8 _ (List.mem_of_getElem? (l := tables_1_8) (i := 153) rfl)) rfl
set_option maxRecDepth 100000 in
theorem wd_1952 : (Jvm.Cond.methodLink "ReedOraclesModel" (392 : Nat) ({ cls := "ReedOraclesModel", name := "isSo", desc := "(I)Z" } : Jvm.MethodName)) ∈ zT := zT_mem (tb8 _ (List.mem_of_getElem? (l := tables_1_8) (i := 154) rfl)) rfl
set_option maxRecDepth 100000 in
theorem wd_1954 : (Jvm.Cond.instanceMethod ({ cls := "ReedOraclesModel", name := "isSo", desc := "(I)Z" } : Jvm.MethodName)) ∈ zT := zT_mem (tb8 _ (List.mem_of_getElem? (l := tables_1_8) (i := 156) rfl)) rfl
set_option maxRecDepth 100000 in
theorem wd_1955 : (Jvm.Cond.code ({ cls := "ReedOraclesModel", name := "isSo", desc := "(I)Z" } : Jvm.MethodName) prog_14_method_109_code (5 : Nat) (Option.some Jvm.ClassFile.FieldType.boolean)) ∈ zT := zT_mem (tb8 _ (List.mem_of_getElem? (l := tables_1_8) (i := 157) rfl)) rfl
set_option maxRecDepth 100000 in
theorem wd_1956 : (Jvm.Cond.methodLink "ReedOraclesModel" (389 : Nat) ({ cls := "ReedOraclesModel", name := "noteBy", desc := "(IIII)I" } : Jvm.MethodName)) ∈ zT := zT_mem (tb8 _ (List.mem_of_getElem? (l := tables_1_8) (i := 158) rfl)) rfl
set_option maxRecDepth 100000 in
theorem wd_1958 : (Jvm.Cond.instanceMethod ({ cls := "ReedOraclesModel", name := "noteBy", desc := "(IIII)I" } : Jvm.MethodName)) ∈ zT := zT_mem (tb8 _ (List.mem_of_getElem? (l := tables_1_8) (i := 160) rfl)) rfl
set_option maxRecDepth 100000 in
theorem wd_1959 : (Jvm.Cond.code ({ cls := "ReedOraclesModel", name := "noteBy", desc := "(IIII)I" } : Jvm.MethodName) prog_14_method_108_code (5 : Nat) (Option.some Jvm.ClassFile.FieldType.int)) ∈ zT := zT_mem (tb8 _ (List.mem_of_getElem? (l := tables_1_8) (i := 161) rfl)) rfl
set_option maxRecDepth 100000 in
theorem wd_1960 : (Jvm.Cond.methodLink "ReedOraclesModel" (401 : Nat) ({ cls := "ReedOraclesModel", name := "whoseOf", desc := "()I" } : Jvm.MethodName)) ∈ zT := zT_mem (tb8 _ (List.mem_of_getElem? (l := tables_1_8) (i := 162) rfl)) rfl
set_option maxRecDepth 100000 in
theorem wd_1962 : (Jvm.Cond.instanceMethod ({ cls := "ReedOraclesModel", name := "whoseOf", desc := "()I" } : Jvm.MethodName)) ∈ zT := zT_mem (tb8 _ (List.mem_of_getElem? (l := tables_1_8) (i := 164) rfl)) rfl
set_option maxRecDepth 100000 in
theorem wd_1963 : (Jvm.Cond.code ({ cls := "ReedOraclesModel", name := "whoseOf", desc := "()I" } : Jvm.MethodName) prog_14_method_113_code (3 : Nat) (Option.some Jvm.ClassFile.FieldType.int)) ∈ zT := zT_mem (tb8 _ (List.mem_of_getElem? (l := tables_1_8) (i := 165) rfl)) rfl
set_option maxRecDepth 100000 in
theorem wd_1964 : (Jvm.Cond.methodLink "ReedOraclesModel" (405 : Nat) ({ cls := "ReedOraclesModel", name := "nextOf", desc := "()I" } : Jvm.MethodName)) ∈ zT := zT_mem (tb8 _ (List.mem_of_getElem? (l := tables_1_8) (i := 166) rfl)) rfl
set_option maxRecDepth 100000 in
theorem wd_1966 : (Jvm.Cond.instanceMethod ({ cls := "ReedOraclesModel", name := "nextOf", desc := "()I" } : Jvm.MethodName)) ∈ zT := zT_mem (tb8 _ (List.mem_of_getElem? (l := tables_1_8) (i := 168) rfl)) rfl
set_option maxRecDepth 100000 in
theorem wd_1967 : (Jvm.Cond.code ({ cls := "ReedOraclesModel", name := "nextOf", desc := "()I" } : Jvm.MethodName) prog_14_method_112_code (6 : Nat) (Option.some Jvm.ClassFile.FieldType.int)) ∈ zT := zT_mem (tb8 _ (List.mem_of_getElem? (l := tables_1_8) (i := 169) rfl)) rfl
set_option maxRecDepth 100000 in
theorem wd_1968 : (Jvm.Cond.methodLink "ReedOraclesModel" (395 : Nat) ({ cls := "ReedOraclesModel", name := "greatestBy", desc := "(II)I" } : Jvm.MethodName)) ∈ zT := zT_mem (tb8 _ (List.mem_of_getElem? (l := tables_1_8) (i := 170) rfl)) rfl
set_option maxRecDepth 100000 in
theorem wd_1970 : (Jvm.Cond.instanceMethod ({ cls := "ReedOraclesModel", name := "greatestBy", desc := "(II)I" } : Jvm.MethodName)) ∈ zT := zT_mem (tb8 _ (List.mem_of_getElem? (l := tables_1_8) (i := 172) rfl)) rfl
set_option maxRecDepth 100000 in
theorem wd_1971 : (Jvm.Cond.code ({ cls := "ReedOraclesModel", name := "greatestBy", desc := "(II)I" } : Jvm.MethodName) prog_14_method_111_code (6 : Nat) (Option.some Jvm.ClassFile.FieldType.int)) ∈ zT := zT_mem (tb8 _ (List.mem_of_getElem? (l := tables_1_8) (i := 173) rfl)) rfl
set_option maxRecDepth 100000 in
theorem wd_1972 : (Jvm.Cond.methodLink "ReedOraclesLaw" (155 : Nat) ({ cls := "ReedOraclesModel", name := "odds", desc := "(IIIIIZ)J" } : Jvm.MethodName)) ∈ zT := zT_mem (tb8 _ (List.mem_of_getElem? (l := tables_1_8) (i := 174) rfl)) rfl
set_option maxRecDepth 100000 in
theorem wd_1973 : (Jvm.Cond.instanceMethod ({ cls := "ReedOraclesModel", name := "odds", desc := "(IIIIIZ)J" } : Jvm.MethodName)) ∈ zT := zT_mem (tb8 _ (List.mem_of_getElem? (l := tables_1_8) (i := 175) rfl)) rfl
set_option maxRecDepth 100000 in
theorem wd_1974 : (Jvm.Cond.selects "ReedOraclesModel" ({ cls := "ReedOraclesModel", name := "odds", desc := "(IIIIIZ)J" } : Jvm.MethodName) ({ cls := "ReedOraclesModel", name := "odds", desc := "(IIIIIZ)J" } : Jvm.MethodName)) ∈ zT := zT_mem (tb8 _ (List.mem_of_getElem? (l := tables_1_8) (i := 176) rfl)) rfl
set_option maxRecDepth 100000 in
theorem wd_1975 : (Jvm.Cond.code ({ cls := "ReedOraclesModel", name := "odds", desc := "(IIIIIZ)J" } : Jvm.MethodName) prog_14_method_117_code (12 : Nat) (Option.some Jvm.ClassFile.FieldType.long)) ∈ zT := zT_mem (tb8 _ (List.mem_of_getElem? (l := tables_1_8) (i := 177) rfl)) rfl
set_option maxRecDepth 100000 in
theorem wd_1976 : (Jvm.Cond.constantLong "ReedOraclesModel" (408 : Nat) (-1 : Int64)) ∈ zT := zT_mem (tb8 _ (List.mem_of_getElem? (l := tables_1_8) (i := 178) rfl)) rfl
set_option maxRecDepth 100000 in
theorem wd_1977 : (Jvm.Cond.methodLink "ReedOraclesModel" (410 : Nat) ({ cls := "ReedOraclesModel", name := "common", desc := "(JJ)J" } : Jvm.MethodName)) ∈ zT := zT_mem (tb8 _ (List.mem_of_getElem? (l := tables_1_8) (i := 179) rfl)) rfl
set_option maxRecDepth 100000 in
theorem wd_1978 : (Jvm.Cond.static ({ cls := "ReedOraclesModel", name := "common", desc := "(JJ)J" } : Jvm.MethodName)) ∈ zT := zT_mem (tb8 _ (List.mem_of_getElem? (l := tables_1_8) (i := 180) rfl)) rfl
set_option maxRecDepth 100000 in
theorem wd_1979 : (Jvm.Cond.code ({ cls := "ReedOraclesModel", name := "common", desc := "(JJ)J" } : Jvm.MethodName) prog_14_method_115_code (10 : Nat) (Option.some Jvm.ClassFile.FieldType.long)) ∈ zT := zT_mem (tb8 _ (List.mem_of_getElem? (l := tables_1_8) (i := 181) rfl)) rfl
set_option maxRecDepth 100000 in
theorem wd_1980 : (Jvm.Cond.methodLink "ReedOraclesLaw" (97 : Nat) ({ cls := "ReedOraclesModel", name := "left", desc := "(IIIIZ)J" } : Jvm.MethodName)) ∈ zT := zT_mem (tb8 _ (List.mem_of_getElem? (l := tables_1_8) (i := 182) rfl)) rfl
set_option maxRecDepth 100000 in
theorem wd_1981 : (Jvm.Cond.instanceMethod ({ cls := "ReedOraclesModel", name := "left", desc := "(IIIIZ)J" } : Jvm.MethodName)) ∈ zT := zT_mem (tb8 _ (List.mem_of_getElem? (l := tables_1_8) (i := 183) rfl)) rfl
set_option maxRecDepth 100000 in
theorem wd_1982 : (Jvm.Cond.selects "ReedOraclesModel" ({ cls := "ReedOraclesModel", name := "left", desc := "(IIIIZ)J" } : Jvm.MethodName) ({ cls := "ReedOraclesModel", name := "left", desc := "(IIIIZ)J" } : Jvm.MethodName)) ∈ zT := zT_mem (tb8 _ (List.mem_of_getElem? (l := tables_1_8) (i := 184) rfl)) rfl
set_option maxRecDepth 100000 in
theorem wd_1983 : (Jvm.Cond.code ({ cls := "ReedOraclesModel", name := "left", desc := "(IIIIZ)J" } : Jvm.MethodName) prog_14_method_118_code (14 : Nat) (Option.some Jvm.ClassFile.FieldType.long)) ∈ zT := zT_mem (tb8 _ (List.mem_of_getElem? (l := tables_1_8) (i := 185) rfl)) rfl
set_option maxRecDepth 100000 in
theorem wd_1984 : (Jvm.Cond.methodLink "ReedOraclesModel" (414 : Nat) ({ cls := "ReedOraclesModel", name := "power", desc := "(JI)J" } : Jvm.MethodName)) ∈ zT := zT_mem (tb8 _ (List.mem_of_getElem? (l := tables_1_8) (i := 186) rfl)) rfl
set_option maxRecDepth 100000 in
theorem wd_1985 : (Jvm.Cond.static ({ cls := "ReedOraclesModel", name := "power", desc := "(JI)J" } : Jvm.MethodName)) ∈ zT := zT_mem (tb8 _ (List.mem_of_getElem? (l := tables_1_8) (i := 187) rfl)) rfl
set_option maxRecDepth 100000 in
theorem wd_1986 : (Jvm.Cond.code ({ cls := "ReedOraclesModel", name := "power", desc := "(JI)J" } : Jvm.MethodName) prog_14_method_116_code (6 : Nat) (Option.some Jvm.ClassFile.FieldType.long)) ∈ zT := zT_mem (tb8 _ (List.mem_of_getElem? (l := tables_1_8) (i := 188) rfl)) rfl
set_option maxRecDepth 100000 in
theorem wd_1987 : (Jvm.Cond.constantLong "ReedOraclesModel" (418 : Nat) (10 : Int64)) ∈ zT := zT_mem (tb8 _ (List.mem_of_getElem? (l := tables_1_8) (i := 189) rfl)) rfl
set_option maxRecDepth 100000 in
theorem wd_1988 : (Jvm.Cond.methodLink "ReedOraclesLaw" (101 : Nat) ({ cls := "ReedOraclesModel", name := "drawn", desc := "(IIII)I" } : Jvm.MethodName)) ∈ zT := zT_mem (tb8 _ (List.mem_of_getElem? (l := tables_1_8) (i := 190) rfl)) rfl
set_option maxRecDepth 100000 in
theorem wd_1989 : (Jvm.Cond.instanceMethod ({ cls := "ReedOraclesModel", name := "drawn", desc := "(IIII)I" } : Jvm.MethodName)) ∈ zT := zT_mem (tb8 _ (List.mem_of_getElem? (l := tables_1_8) (i := 191) rfl)) rfl
set_option maxRecDepth 100000 in
theorem wd_1990 : (Jvm.Cond.selects "ReedOraclesModel" ({ cls := "ReedOraclesModel", name := "drawn", desc := "(IIII)I" } : Jvm.MethodName) ({ cls := "ReedOraclesModel", name := "drawn", desc := "(IIII)I" } : Jvm.MethodName)) ∈ zT := zT_mem (tb8 _ (List.mem_of_getElem? (l := tables_1_8) (i := 192) rfl)) rfl
set_option maxRecDepth 100000 in
theorem wd_1991 : (Jvm.Cond.code ({ cls := "ReedOraclesModel", name := "drawn", desc := "(IIII)I" } : Jvm.MethodName) prog_14_method_121_code (6 : Nat) (Option.some Jvm.ClassFile.FieldType.int)) ∈ zT := zT_mem (tb8 _ (List.mem_of_getElem? (l := tables_1_8) (i := 193) rfl)) rfl
set_option maxRecDepth 100000 in
theorem wd_1992 : (Jvm.Cond.methodLink "ReedOraclesModel" (427 : Nat) ({ cls := "ReedOraclesModel", name := "draws", desc := "()V" } : Jvm.MethodName)) ∈ zT := zT_mem (tb8 _ (List.mem_of_getElem? (l := tables_1_8) (i := 194) rfl)) rfl
set_option maxRecDepth 100000 in
theorem wd_1994 : (Jvm.Cond.instanceMethod ({ cls := "ReedOraclesModel", name := "draws", desc := "()V" } : Jvm.MethodName)) ∈ zT := zT_mem (tb8 _ (List.mem_of_getElem? (l := tables_1_8) (i := 196) rfl)) rfl
set_option maxRecDepth 100000 in
theorem wd_1995 : (Jvm.Cond.code ({ cls := "ReedOraclesModel", name := "draws", desc := "()V" } : Jvm.MethodName) prog_14_method_120_code (4 : Nat) (Option.none : Option Jvm.ClassFile.FieldType)) ∈ zT := zT_mem (tb8 _ (List.mem_of_getElem? (l := tables_1_8) (i := 197) rfl)) rfl
set_option maxRecDepth 100000 in
theorem wd_1996 : (Jvm.Cond.methodLink "ReedOraclesModel" (424 : Nat) ({ cls := "ReedOraclesModel", name := "below", desc := "(I)I" } : Jvm.MethodName)) ∈ zT := zT_mem (tb8 _ (List.mem_of_getElem? (l := tables_1_8) (i := 198) rfl)) rfl
set_option maxRecDepth 100000 in
theorem wd_1998 : (Jvm.Cond.instanceMethod ({ cls := "ReedOraclesModel", name := "below", desc := "(I)I" } : Jvm.MethodName)) ∈ zT := zT_mem (tb8 _ (List.mem_of_getElem? (l := tables_1_8) (i := 200) rfl)) rfl
set_option maxRecDepth 100000 in
theorem wd_1999 : (Jvm.Cond.code ({ cls := "ReedOraclesModel", name := "below", desc := "(I)I" } : Jvm.MethodName) prog_14_method_119_code (2 : Nat) (Option.some Jvm.ClassFile.FieldType.int)) ∈ zT := zT_mem (tb8 _ (List.mem_of_getElem? (l := tables_1_8) (i := 201) rfl)) rfl
set_option maxRecDepth 100000 in
theorem wd_2000 : (Jvm.Cond.constant "ReedOraclesModel" (423 : Nat) (1103515245 : Int32)) ∈ zT := zT_mem (tb8 _ (List.mem_of_getElem? (l := tables_1_8) (i := 202) rfl)) rfl
set_option maxRecDepth 100000 in
theorem wd_2001 : (Jvm.Cond.methodLink "ReedOraclesLaw" (171 : Nat) ({ cls := "ReedOraclesModel", name := "count", desc := "(I)I" } : Jvm.MethodName)) ∈ zT := zT_mem (tb8 _ (List.mem_of_getElem? (l := tables_1_8) (i := 203) rfl)) rfl
set_option maxRecDepth 100000 in
theorem wd_2002 : (Jvm.Cond.instanceMethod ({ cls := "ReedOraclesModel", name := "count", desc := "(I)I" } : Jvm.MethodName)) ∈ zT := zT_mem (tb8 _ (List.mem_of_getElem? (l := tables_1_8) (i := 204) rfl)) rfl
set_option maxRecDepth 100000 in
theorem wd_2003 : (Jvm.Cond.selects "ReedOraclesModel" ({ cls := "ReedOraclesModel", name := "count", desc := "(I)I" } : Jvm.MethodName) ({ cls := "ReedOraclesModel", name := "count", desc := "(I)I" } : Jvm.MethodName)) ∈ zT := zT_mem (tb8 _ (List.mem_of_getElem? (l := tables_1_8) (i := 205) rfl)) rfl
set_option maxRecDepth 100000 in
theorem wd_2004 : (Jvm.Cond.code ({ cls := "ReedOraclesModel", name := "count", desc := "(I)I" } : Jvm.MethodName) prog_14_method_122_code (2 : Nat) (Option.some Jvm.ClassFile.FieldType.int)) ∈ zT := zT_mem (tb8 _ (List.mem_of_getElem? (l := tables_1_8) (i := 206) rfl)) rfl
set_option maxRecDepth 100000 in
theorem wd_2005 : (Jvm.Cond.methodLink "ReedOraclesLaw" (176 : Nat) ({ cls := "ReedOraclesModel", name := "image", desc := "(I)Z" } : Jvm.MethodName)) ∈ zT := zT_mem (tb8 _ (List.mem_of_getElem? (l := tables_1_8) (i := 207) rfl)) rfl
set_option maxRecDepth 100000 in
theorem wd_2006 : (Jvm.Cond.instanceMethod ({ cls := "ReedOraclesModel", name := "image", desc := "(I)Z" } : Jvm.MethodName)) ∈ zT := zT_mem (tb8 _ (List.mem_of_getElem? (l := tables_1_8) (i := 208) rfl)) rfl
set_option maxRecDepth 100000 in
theorem wd_2007 : (Jvm.Cond.selects "ReedOraclesModel" ({ cls := "ReedOraclesModel", name := "image", desc := "(I)Z" } : Jvm.MethodName) ({ cls := "ReedOraclesModel", name := "image", desc := "(I)Z" } : Jvm.MethodName)) ∈ zT := zT_mem (tb8 _ (List.mem_of_getElem? (l := tables_1_8) (i := 209) rfl)) rfl
set_option maxRecDepth 100000 in
theorem wd_2008 : (Jvm.Cond.code ({ cls := "ReedOraclesModel", name := "image", desc := "(I)Z" } : Jvm.MethodName) prog_14_method_123_code (3 : Nat) (Option.some Jvm.ClassFile.FieldType.boolean)) ∈ zT := zT_mem (tb8 _ (List.mem_of_getElem? (l := tables_1_8) (i := 210) rfl)) rfl
set_option maxRecDepth 100000 in
theorem wd_2009 : (Jvm.Cond.methodLink "ReedOraclesLaw" (180 : Nat) ({ cls := "ReedOraclesModel", name := "again", desc := "(I)Z" } : Jvm.MethodName)) ∈ zT := zT_mem (tb8 _ (List.mem_of_getElem? (l := tables_1_8) (i := 211) rfl)) rfl
set_option maxRecDepth 100000 in
theorem wd_2010 : (Jvm.Cond.instanceMethod ({ cls := "ReedOraclesModel", name := "again", desc := "(I)Z" } : Jvm.MethodName)) ∈ zT := zT_mem (tb8 _ (List.mem_of_getElem? (l := tables_1_8) (i := 212) rfl)) rfl
set_option maxRecDepth 100000 in
theorem wd_2011 : (Jvm.Cond.selects "ReedOraclesModel" ({ cls := "ReedOraclesModel", name := "again", desc := "(I)Z" } : Jvm.MethodName) ({ cls := "ReedOraclesModel", name := "again", desc := "(I)Z" } : Jvm.MethodName)) ∈ zT := zT_mem (tb8 _ (List.mem_of_getElem? (l := tables_1_8) (i := 213) rfl)) rfl
set_option maxRecDepth 100000 in
theorem wd_2012 : (Jvm.Cond.code ({ cls := "ReedOraclesModel", name := "again", desc := "(I)Z" } : Jvm.MethodName) prog_14_method_124_code (3 : Nat) (Option.some Jvm.ClassFile.FieldType.boolean)) ∈ zT := zT_mem (tb8 _ (List.mem_of_getElem? (l := tables_1_8) (i := 214) rfl)) rfl
