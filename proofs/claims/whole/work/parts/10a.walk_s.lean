abbrev wo_J6_bitCount_0f7a4 : List Cond := .code yJ6_bitCount_0f7a4 cJ6_bitCount_0f7a4 1 (some .int) :: wsL_law
set_option maxHeartbeats 4000000 in
set_option maxRecDepth 100000 in
theorem core_J6_bitCount_0f7a4 (x0 : Int32) {p : Program} {l : Launch} {e : Env} {s : State} {m : MethodId} {args : Array Value} {below : List Frame} {meth : Method} {c : Code} {ls : Array Slot} (hx : p.tables.exec = Jvm.exec) (hb : c.code = cJ6_bitCount_0f7a4) (hml : c.maxLocals = 1) (hr : meth.sig.returnType = some .int) (hts : ∀ w ∈ wo_J6_bitCount_0f7a4, w.before args s = true) (hown : s.vm.findClass RJ6 = some m.cls) (hlocks : meth.locks = false) (hl : lv_has ls 1 [(0, .int x0)]) {o : Int32} (h : f_J6_bitCount_0f7a4 x0 = some o) : gRi p l e wo_J6_bitCount_0f7a4 0 s m args below meth c o (F0 m 0 ls []) := by
  have kc265 := hts _ (List.mem_cons_of_mem _ wm_213)
  have kc266 := hts _ (List.mem_cons_of_mem _ wm_214)
  have kc267 := hts _ (List.mem_cons_of_mem _ wm_215)
  unfold f_J6_bitCount_0f7a4 at h
  refine lv_iload_n hx hb dJ6_bitCount_0f7a4_0 rfl (lv_at hl 0 rfl) ?_
  refine lv_iload_n hx hb dJ6_bitCount_0f7a4_1 rfl (lv_at hl 0 rfl) ?_
  refine lv_iconst (v := 1) hx hb dJ6_bitCount_0f7a4_2 (by decide) ?_
  refine lv_iushr (v := (x0.toUInt32 >>> ((1 : Int32).toUInt32 &&& Int32.toUInt32 31)).toInt32) hx hb dJ6_bitCount_0f7a4_3 rfl ?_
  refine lv_ldcw (v := 1431655765) hx hb hown kc265 dJ6_bitCount_0f7a4_4 ?_
  refine lv_iand hx hb dJ6_bitCount_0f7a4_7 ?_
  refine lv_isub hx hb dJ6_bitCount_0f7a4_8 ?_
  refine lv_istore_n (lv' := [(0, .int (x0 - ((x0.toUInt32 >>> ((1 : Int32).toUInt32 &&& Int32.toUInt32 31)).toInt32 &&& 1431655765)))]) hx hb dJ6_bitCount_0f7a4_9 rfl hl (by decide) rfl (fun ls hl => ?_)
  refine lv_iload_n hx hb dJ6_bitCount_0f7a4_10 rfl (lv_at hl 0 rfl) ?_
  refine lv_ldcw (v := 858993459) hx hb hown kc266 dJ6_bitCount_0f7a4_11 ?_
  refine lv_iand hx hb dJ6_bitCount_0f7a4_14 ?_
  refine lv_iload_n hx hb dJ6_bitCount_0f7a4_15 rfl (lv_at hl 0 rfl) ?_
  refine lv_iconst (v := 2) hx hb dJ6_bitCount_0f7a4_16 (by decide) ?_
  refine lv_iushr (v := ((x0 - ((x0.toUInt32 >>> ((1 : Int32).toUInt32 &&& Int32.toUInt32 31)).toInt32 &&& 1431655765)).toUInt32 >>> ((2 : Int32).toUInt32 &&& Int32.toUInt32 31)).toInt32) hx hb dJ6_bitCount_0f7a4_17 rfl ?_
  refine lv_ldcw (v := 858993459) hx hb hown kc266 dJ6_bitCount_0f7a4_18 ?_
  refine lv_iand hx hb dJ6_bitCount_0f7a4_21 ?_
  refine lv_iadd hx hb dJ6_bitCount_0f7a4_22 ?_
  refine lv_istore_n (lv' := [(0, .int (((x0 - ((x0.toUInt32 >>> ((1 : Int32).toUInt32 &&& Int32.toUInt32 31)).toInt32 &&& 1431655765)) &&& 858993459) + (((x0 - ((x0.toUInt32 >>> ((1 : Int32).toUInt32 &&& Int32.toUInt32 31)).toInt32 &&& 1431655765)).toUInt32 >>> ((2 : Int32).toUInt32 &&& Int32.toUInt32 31)).toInt32 &&& 858993459)))]) hx hb dJ6_bitCount_0f7a4_23 rfl hl (by decide) rfl (fun ls hl => ?_)
  refine lv_iload_n hx hb dJ6_bitCount_0f7a4_24 rfl (lv_at hl 0 rfl) ?_
  refine lv_iload_n hx hb dJ6_bitCount_0f7a4_25 rfl (lv_at hl 0 rfl) ?_
  refine lv_iconst (v := 4) hx hb dJ6_bitCount_0f7a4_26 (by decide) ?_
  refine lv_iushr (v := ((((x0 - ((x0.toUInt32 >>> ((1 : Int32).toUInt32 &&& Int32.toUInt32 31)).toInt32 &&& 1431655765)) &&& 858993459) + (((x0 - ((x0.toUInt32 >>> ((1 : Int32).toUInt32 &&& Int32.toUInt32 31)).toInt32 &&& 1431655765)).toUInt32 >>> ((2 : Int32).toUInt32 &&& Int32.toUInt32 31)).toInt32 &&& 858993459)).toUInt32 >>> ((4 : Int32).toUInt32 &&& Int32.toUInt32 31)).toInt32) hx hb dJ6_bitCount_0f7a4_27 rfl ?_
  refine lv_iadd hx hb dJ6_bitCount_0f7a4_28 ?_
  refine lv_ldcw (v := 252645135) hx hb hown kc267 dJ6_bitCount_0f7a4_29 ?_
  refine lv_iand hx hb dJ6_bitCount_0f7a4_32 ?_
  refine lv_istore_n (lv' := [(0, .int (((((x0 - ((x0.toUInt32 >>> ((1 : Int32).toUInt32 &&& Int32.toUInt32 31)).toInt32 &&& 1431655765)) &&& 858993459) + (((x0 - ((x0.toUInt32 >>> ((1 : Int32).toUInt32 &&& Int32.toUInt32 31)).toInt32 &&& 1431655765)).toUInt32 >>> ((2 : Int32).toUInt32 &&& Int32.toUInt32 31)).toInt32 &&& 858993459)) + ((((x0 - ((x0.toUInt32 >>> ((1 : Int32).toUInt32 &&& Int32.toUInt32 31)).toInt32 &&& 1431655765)) &&& 858993459) + (((x0 - ((x0.toUInt32 >>> ((1 : Int32).toUInt32 &&& Int32.toUInt32 31)).toInt32 &&& 1431655765)).toUInt32 >>> ((2 : Int32).toUInt32 &&& Int32.toUInt32 31)).toInt32 &&& 858993459)).toUInt32 >>> ((4 : Int32).toUInt32 &&& Int32.toUInt32 31)).toInt32) &&& 252645135))]) hx hb dJ6_bitCount_0f7a4_33 rfl hl (by decide) rfl (fun ls hl => ?_)
  refine lv_iload_n hx hb dJ6_bitCount_0f7a4_34 rfl (lv_at hl 0 rfl) ?_
  refine lv_iload_n hx hb dJ6_bitCount_0f7a4_35 rfl (lv_at hl 0 rfl) ?_
  refine lv_bipush (v := 8) hx hb dJ6_bitCount_0f7a4_36 (by decide) ?_
  refine lv_iushr (v := ((((((x0 - ((x0.toUInt32 >>> ((1 : Int32).toUInt32 &&& Int32.toUInt32 31)).toInt32 &&& 1431655765)) &&& 858993459) + (((x0 - ((x0.toUInt32 >>> ((1 : Int32).toUInt32 &&& Int32.toUInt32 31)).toInt32 &&& 1431655765)).toUInt32 >>> ((2 : Int32).toUInt32 &&& Int32.toUInt32 31)).toInt32 &&& 858993459)) + ((((x0 - ((x0.toUInt32 >>> ((1 : Int32).toUInt32 &&& Int32.toUInt32 31)).toInt32 &&& 1431655765)) &&& 858993459) + (((x0 - ((x0.toUInt32 >>> ((1 : Int32).toUInt32 &&& Int32.toUInt32 31)).toInt32 &&& 1431655765)).toUInt32 >>> ((2 : Int32).toUInt32 &&& Int32.toUInt32 31)).toInt32 &&& 858993459)).toUInt32 >>> ((4 : Int32).toUInt32 &&& Int32.toUInt32 31)).toInt32) &&& 252645135).toUInt32 >>> ((8 : Int32).toUInt32 &&& Int32.toUInt32 31)).toInt32) hx hb dJ6_bitCount_0f7a4_38 rfl ?_
  refine lv_iadd hx hb dJ6_bitCount_0f7a4_39 ?_
  refine lv_istore_n (lv' := [(0, .int ((((((x0 - ((x0.toUInt32 >>> ((1 : Int32).toUInt32 &&& Int32.toUInt32 31)).toInt32 &&& 1431655765)) &&& 858993459) + (((x0 - ((x0.toUInt32 >>> ((1 : Int32).toUInt32 &&& Int32.toUInt32 31)).toInt32 &&& 1431655765)).toUInt32 >>> ((2 : Int32).toUInt32 &&& Int32.toUInt32 31)).toInt32 &&& 858993459)) + ((((x0 - ((x0.toUInt32 >>> ((1 : Int32).toUInt32 &&& Int32.toUInt32 31)).toInt32 &&& 1431655765)) &&& 858993459) + (((x0 - ((x0.toUInt32 >>> ((1 : Int32).toUInt32 &&& Int32.toUInt32 31)).toInt32 &&& 1431655765)).toUInt32 >>> ((2 : Int32).toUInt32 &&& Int32.toUInt32 31)).toInt32 &&& 858993459)).toUInt32 >>> ((4 : Int32).toUInt32 &&& Int32.toUInt32 31)).toInt32) &&& 252645135) + ((((((x0 - ((x0.toUInt32 >>> ((1 : Int32).toUInt32 &&& Int32.toUInt32 31)).toInt32 &&& 1431655765)) &&& 858993459) + (((x0 - ((x0.toUInt32 >>> ((1 : Int32).toUInt32 &&& Int32.toUInt32 31)).toInt32 &&& 1431655765)).toUInt32 >>> ((2 : Int32).toUInt32 &&& Int32.toUInt32 31)).toInt32 &&& 858993459)) + ((((x0 - ((x0.toUInt32 >>> ((1 : Int32).toUInt32 &&& Int32.toUInt32 31)).toInt32 &&& 1431655765)) &&& 858993459) + (((x0 - ((x0.toUInt32 >>> ((1 : Int32).toUInt32 &&& Int32.toUInt32 31)).toInt32 &&& 1431655765)).toUInt32 >>> ((2 : Int32).toUInt32 &&& Int32.toUInt32 31)).toInt32 &&& 858993459)).toUInt32 >>> ((4 : Int32).toUInt32 &&& Int32.toUInt32 31)).toInt32) &&& 252645135).toUInt32 >>> ((8 : Int32).toUInt32 &&& Int32.toUInt32 31)).toInt32))]) hx hb dJ6_bitCount_0f7a4_40 rfl hl (by decide) rfl (fun ls hl => ?_)
  refine lv_iload_n hx hb dJ6_bitCount_0f7a4_41 rfl (lv_at hl 0 rfl) ?_
  refine lv_iload_n hx hb dJ6_bitCount_0f7a4_42 rfl (lv_at hl 0 rfl) ?_
  refine lv_bipush (v := 16) hx hb dJ6_bitCount_0f7a4_43 (by decide) ?_
  refine lv_iushr (v := (((((((x0 - ((x0.toUInt32 >>> ((1 : Int32).toUInt32 &&& Int32.toUInt32 31)).toInt32 &&& 1431655765)) &&& 858993459) + (((x0 - ((x0.toUInt32 >>> ((1 : Int32).toUInt32 &&& Int32.toUInt32 31)).toInt32 &&& 1431655765)).toUInt32 >>> ((2 : Int32).toUInt32 &&& Int32.toUInt32 31)).toInt32 &&& 858993459)) + ((((x0 - ((x0.toUInt32 >>> ((1 : Int32).toUInt32 &&& Int32.toUInt32 31)).toInt32 &&& 1431655765)) &&& 858993459) + (((x0 - ((x0.toUInt32 >>> ((1 : Int32).toUInt32 &&& Int32.toUInt32 31)).toInt32 &&& 1431655765)).toUInt32 >>> ((2 : Int32).toUInt32 &&& Int32.toUInt32 31)).toInt32 &&& 858993459)).toUInt32 >>> ((4 : Int32).toUInt32 &&& Int32.toUInt32 31)).toInt32) &&& 252645135) + ((((((x0 - ((x0.toUInt32 >>> ((1 : Int32).toUInt32 &&& Int32.toUInt32 31)).toInt32 &&& 1431655765)) &&& 858993459) + (((x0 - ((x0.toUInt32 >>> ((1 : Int32).toUInt32 &&& Int32.toUInt32 31)).toInt32 &&& 1431655765)).toUInt32 >>> ((2 : Int32).toUInt32 &&& Int32.toUInt32 31)).toInt32 &&& 858993459)) + ((((x0 - ((x0.toUInt32 >>> ((1 : Int32).toUInt32 &&& Int32.toUInt32 31)).toInt32 &&& 1431655765)) &&& 858993459) + (((x0 - ((x0.toUInt32 >>> ((1 : Int32).toUInt32 &&& Int32.toUInt32 31)).toInt32 &&& 1431655765)).toUInt32 >>> ((2 : Int32).toUInt32 &&& Int32.toUInt32 31)).toInt32 &&& 858993459)).toUInt32 >>> ((4 : Int32).toUInt32 &&& Int32.toUInt32 31)).toInt32) &&& 252645135).toUInt32 >>> ((8 : Int32).toUInt32 &&& Int32.toUInt32 31)).toInt32).toUInt32 >>> ((16 : Int32).toUInt32 &&& Int32.toUInt32 31)).toInt32) hx hb dJ6_bitCount_0f7a4_45 rfl ?_
  refine lv_iadd hx hb dJ6_bitCount_0f7a4_46 ?_
  refine lv_istore_n (lv' := [(0, .int (((((((x0 - ((x0.toUInt32 >>> ((1 : Int32).toUInt32 &&& Int32.toUInt32 31)).toInt32 &&& 1431655765)) &&& 858993459) + (((x0 - ((x0.toUInt32 >>> ((1 : Int32).toUInt32 &&& Int32.toUInt32 31)).toInt32 &&& 1431655765)).toUInt32 >>> ((2 : Int32).toUInt32 &&& Int32.toUInt32 31)).toInt32 &&& 858993459)) + ((((x0 - ((x0.toUInt32 >>> ((1 : Int32).toUInt32 &&& Int32.toUInt32 31)).toInt32 &&& 1431655765)) &&& 858993459) + (((x0 - ((x0.toUInt32 >>> ((1 : Int32).toUInt32 &&& Int32.toUInt32 31)).toInt32 &&& 1431655765)).toUInt32 >>> ((2 : Int32).toUInt32 &&& Int32.toUInt32 31)).toInt32 &&& 858993459)).toUInt32 >>> ((4 : Int32).toUInt32 &&& Int32.toUInt32 31)).toInt32) &&& 252645135) + ((((((x0 - ((x0.toUInt32 >>> ((1 : Int32).toUInt32 &&& Int32.toUInt32 31)).toInt32 &&& 1431655765)) &&& 858993459) + (((x0 - ((x0.toUInt32 >>> ((1 : Int32).toUInt32 &&& Int32.toUInt32 31)).toInt32 &&& 1431655765)).toUInt32 >>> ((2 : Int32).toUInt32 &&& Int32.toUInt32 31)).toInt32 &&& 858993459)) + ((((x0 - ((x0.toUInt32 >>> ((1 : Int32).toUInt32 &&& Int32.toUInt32 31)).toInt32 &&& 1431655765)) &&& 858993459) + (((x0 - ((x0.toUInt32 >>> ((1 : Int32).toUInt32 &&& Int32.toUInt32 31)).toInt32 &&& 1431655765)).toUInt32 >>> ((2 : Int32).toUInt32 &&& Int32.toUInt32 31)).toInt32 &&& 858993459)).toUInt32 >>> ((4 : Int32).toUInt32 &&& Int32.toUInt32 31)).toInt32) &&& 252645135).toUInt32 >>> ((8 : Int32).toUInt32 &&& Int32.toUInt32 31)).toInt32) + (((((((x0 - ((x0.toUInt32 >>> ((1 : Int32).toUInt32 &&& Int32.toUInt32 31)).toInt32 &&& 1431655765)) &&& 858993459) + (((x0 - ((x0.toUInt32 >>> ((1 : Int32).toUInt32 &&& Int32.toUInt32 31)).toInt32 &&& 1431655765)).toUInt32 >>> ((2 : Int32).toUInt32 &&& Int32.toUInt32 31)).toInt32 &&& 858993459)) + ((((x0 - ((x0.toUInt32 >>> ((1 : Int32).toUInt32 &&& Int32.toUInt32 31)).toInt32 &&& 1431655765)) &&& 858993459) + (((x0 - ((x0.toUInt32 >>> ((1 : Int32).toUInt32 &&& Int32.toUInt32 31)).toInt32 &&& 1431655765)).toUInt32 >>> ((2 : Int32).toUInt32 &&& Int32.toUInt32 31)).toInt32 &&& 858993459)).toUInt32 >>> ((4 : Int32).toUInt32 &&& Int32.toUInt32 31)).toInt32) &&& 252645135) + ((((((x0 - ((x0.toUInt32 >>> ((1 : Int32).toUInt32 &&& Int32.toUInt32 31)).toInt32 &&& 1431655765)) &&& 858993459) + (((x0 - ((x0.toUInt32 >>> ((1 : Int32).toUInt32 &&& Int32.toUInt32 31)).toInt32 &&& 1431655765)).toUInt32 >>> ((2 : Int32).toUInt32 &&& Int32.toUInt32 31)).toInt32 &&& 858993459)) + ((((x0 - ((x0.toUInt32 >>> ((1 : Int32).toUInt32 &&& Int32.toUInt32 31)).toInt32 &&& 1431655765)) &&& 858993459) + (((x0 - ((x0.toUInt32 >>> ((1 : Int32).toUInt32 &&& Int32.toUInt32 31)).toInt32 &&& 1431655765)).toUInt32 >>> ((2 : Int32).toUInt32 &&& Int32.toUInt32 31)).toInt32 &&& 858993459)).toUInt32 >>> ((4 : Int32).toUInt32 &&& Int32.toUInt32 31)).toInt32) &&& 252645135).toUInt32 >>> ((8 : Int32).toUInt32 &&& Int32.toUInt32 31)).toInt32).toUInt32 >>> ((16 : Int32).toUInt32 &&& Int32.toUInt32 31)).toInt32))]) hx hb dJ6_bitCount_0f7a4_47 rfl hl (by decide) rfl (fun ls hl => ?_)
  refine lv_iload_n hx hb dJ6_bitCount_0f7a4_48 rfl (lv_at hl 0 rfl) ?_
  refine lv_bipush (v := 63) hx hb dJ6_bitCount_0f7a4_49 (by decide) ?_
  refine lv_iand hx hb dJ6_bitCount_0f7a4_51 ?_
  exact W.iret (v := ((((((((x0 - ((x0.toUInt32 >>> ((1 : Int32).toUInt32 &&& Int32.toUInt32 31)).toInt32 &&& 1431655765)) &&& 858993459) + (((x0 - ((x0.toUInt32 >>> ((1 : Int32).toUInt32 &&& Int32.toUInt32 31)).toInt32 &&& 1431655765)).toUInt32 >>> ((2 : Int32).toUInt32 &&& Int32.toUInt32 31)).toInt32 &&& 858993459)) + ((((x0 - ((x0.toUInt32 >>> ((1 : Int32).toUInt32 &&& Int32.toUInt32 31)).toInt32 &&& 1431655765)) &&& 858993459) + (((x0 - ((x0.toUInt32 >>> ((1 : Int32).toUInt32 &&& Int32.toUInt32 31)).toInt32 &&& 1431655765)).toUInt32 >>> ((2 : Int32).toUInt32 &&& Int32.toUInt32 31)).toInt32 &&& 858993459)).toUInt32 >>> ((4 : Int32).toUInt32 &&& Int32.toUInt32 31)).toInt32) &&& 252645135) + ((((((x0 - ((x0.toUInt32 >>> ((1 : Int32).toUInt32 &&& Int32.toUInt32 31)).toInt32 &&& 1431655765)) &&& 858993459) + (((x0 - ((x0.toUInt32 >>> ((1 : Int32).toUInt32 &&& Int32.toUInt32 31)).toInt32 &&& 1431655765)).toUInt32 >>> ((2 : Int32).toUInt32 &&& Int32.toUInt32 31)).toInt32 &&& 858993459)) + ((((x0 - ((x0.toUInt32 >>> ((1 : Int32).toUInt32 &&& Int32.toUInt32 31)).toInt32 &&& 1431655765)) &&& 858993459) + (((x0 - ((x0.toUInt32 >>> ((1 : Int32).toUInt32 &&& Int32.toUInt32 31)).toInt32 &&& 1431655765)).toUInt32 >>> ((2 : Int32).toUInt32 &&& Int32.toUInt32 31)).toInt32 &&& 858993459)).toUInt32 >>> ((4 : Int32).toUInt32 &&& Int32.toUInt32 31)).toInt32) &&& 252645135).toUInt32 >>> ((8 : Int32).toUInt32 &&& Int32.toUInt32 31)).toInt32) + (((((((x0 - ((x0.toUInt32 >>> ((1 : Int32).toUInt32 &&& Int32.toUInt32 31)).toInt32 &&& 1431655765)) &&& 858993459) + (((x0 - ((x0.toUInt32 >>> ((1 : Int32).toUInt32 &&& Int32.toUInt32 31)).toInt32 &&& 1431655765)).toUInt32 >>> ((2 : Int32).toUInt32 &&& Int32.toUInt32 31)).toInt32 &&& 858993459)) + ((((x0 - ((x0.toUInt32 >>> ((1 : Int32).toUInt32 &&& Int32.toUInt32 31)).toInt32 &&& 1431655765)) &&& 858993459) + (((x0 - ((x0.toUInt32 >>> ((1 : Int32).toUInt32 &&& Int32.toUInt32 31)).toInt32 &&& 1431655765)).toUInt32 >>> ((2 : Int32).toUInt32 &&& Int32.toUInt32 31)).toInt32 &&& 858993459)).toUInt32 >>> ((4 : Int32).toUInt32 &&& Int32.toUInt32 31)).toInt32) &&& 252645135) + ((((((x0 - ((x0.toUInt32 >>> ((1 : Int32).toUInt32 &&& Int32.toUInt32 31)).toInt32 &&& 1431655765)) &&& 858993459) + (((x0 - ((x0.toUInt32 >>> ((1 : Int32).toUInt32 &&& Int32.toUInt32 31)).toInt32 &&& 1431655765)).toUInt32 >>> ((2 : Int32).toUInt32 &&& Int32.toUInt32 31)).toInt32 &&& 858993459)) + ((((x0 - ((x0.toUInt32 >>> ((1 : Int32).toUInt32 &&& Int32.toUInt32 31)).toInt32 &&& 1431655765)) &&& 858993459) + (((x0 - ((x0.toUInt32 >>> ((1 : Int32).toUInt32 &&& Int32.toUInt32 31)).toInt32 &&& 1431655765)).toUInt32 >>> ((2 : Int32).toUInt32 &&& Int32.toUInt32 31)).toInt32 &&& 858993459)).toUInt32 >>> ((4 : Int32).toUInt32 &&& Int32.toUInt32 31)).toInt32) &&& 252645135).toUInt32 >>> ((8 : Int32).toUInt32 &&& Int32.toUInt32 31)).toInt32).toUInt32 >>> ((16 : Int32).toUInt32 &&& Int32.toUInt32 31)).toInt32) &&& 63)) hx hb hr (fun t ht hW => ⟨_, rfl, Option.some.inj h, ht⟩) (fun q hq => by cases hq) dJ6_bitCount_0f7a4_52
set_option maxHeartbeats 4000000 in
set_option maxRecDepth 100000 in
theorem c_J6_bitCount_0f7a4 (l : Launch) (x0 : Int32) {o : Int32} (h : f_J6_bitCount_0f7a4 x0 = some o) : mPi l yJ6_bitCount_0f7a4 wo_J6_bitCount_0f7a4 0 [.int x0] o := by
  refine Met.ofW (cc := cJ6_bitCount_0f7a4) (maxL := 1) (ret := some .int) (by decide) rfl ?_
  intro p e s m args below meth c s₁ B hml hv
  obtain ⟨rfl, -⟩ := hv
  rw [lg_entry_eq]
  exact core_J6_bitCount_0f7a4 x0 B.exec B.bytes hml B.returns (atoms_spec (ws := wo_J6_bitCount_0f7a4) B.pre) (findClass_of_methodNamed B.named) B.notSynchronized (lv_entry [.int x0] (n := 1) (Nat.le_of_ble_eq_true rfl)) h
theorem qd_J6_bitCount_0f7a4 : yJ6_bitCount_0f7a4.cls ≠ "java/lang/invoke/MethodHandle" ∧ yJ6_bitCount_0f7a4.cls ≠ "java/lang/invoke/VarHandle" ∧ (parseMethodDescriptor yJ6_bitCount_0f7a4.desc).map (fun d => d.parameters.length) = some 1 := by decide +kernel
abbrev wo_J1_canEncode_9a6ad : List Cond := .code yJ1_canEncode_9a6ad cJ1_canEncode_9a6ad 1 (some .boolean) :: wsL_law
set_option maxHeartbeats 4000000 in
set_option maxRecDepth 100000 in
theorem core_J1_canEncode_9a6ad (x0 : Int32) {p : Program} {l : Launch} {e : Env} {s : State} {m : MethodId} {args : Array Value} {below : List Frame} {meth : Method} {c : Code} {ls : Array Slot} (hx : p.tables.exec = Jvm.exec) (hb : c.code = cJ1_canEncode_9a6ad) (hml : c.maxLocals = 1) (hr : meth.sig.returnType = some .boolean) (hts : ∀ w ∈ wo_J1_canEncode_9a6ad, w.before args s = true) (hown : s.vm.findClass RJ1 = some m.cls) (hlocks : meth.locks = false) (hl : lv_has ls 1 [(0, .int x0)]) {o : Int32} (h : f_J1_canEncode_9a6ad x0 = some o) : gRi p l e wo_J1_canEncode_9a6ad 0 s m args below meth c o (F0 m 0 ls []) := by
  unfold f_J1_canEncode_9a6ad at h
  refine lv_iload_n hx hb dJ1_canEncode_9a6ad_0 rfl (lv_at hl 0 rfl) ?_
  refine lv_if_lt (tgt := 15) hx hb dJ1_canEncode_9a6ad_1 (by decide) (fun c1 => ?_) (fun c1 => ?_)
  · replace h := (if_pos c1).symm.trans h
    refine lv_iconst (v := 0) hx hb dJ1_canEncode_9a6ad_15 (by decide) ?_
    exact W.zret (v := 0) hx hb hr rfl (fun t ht hW => ⟨_, rfl, Option.some.inj h, ht⟩) (fun q hq => by cases hq) dJ1_canEncode_9a6ad_16
  · replace h := (if_neg c1).symm.trans h
    refine lv_iload_n hx hb dJ1_canEncode_9a6ad_4 rfl (lv_at hl 0 rfl) ?_
    refine lv_sipush (v := 255) hx hb dJ1_canEncode_9a6ad_5 (by decide) ?_
    refine lv_icmp_gt (tgt := 15) hx hb dJ1_canEncode_9a6ad_8 (by decide) (fun c2 => ?_) (fun c2 => ?_)
    · replace h := (if_pos c2).symm.trans h
      refine lv_iconst (v := 0) hx hb dJ1_canEncode_9a6ad_15 (by decide) ?_
      exact W.zret (v := 0) hx hb hr rfl (fun t ht hW => ⟨_, rfl, Option.some.inj h, ht⟩) (fun q hq => by cases hq) dJ1_canEncode_9a6ad_16
    · replace h := (if_neg c2).symm.trans h
      refine lv_iconst (v := 1) hx hb dJ1_canEncode_9a6ad_11 (by decide) ?_
      refine lv_goto (tgt := 16) hx hb dJ1_canEncode_9a6ad_12 (by decide) ?_
      exact W.zret (v := 1) hx hb hr rfl (fun t ht hW => ⟨_, rfl, Option.some.inj h, ht⟩) (fun q hq => by cases hq) dJ1_canEncode_9a6ad_16
set_option maxHeartbeats 4000000 in
set_option maxRecDepth 100000 in
theorem c_J1_canEncode_9a6ad (l : Launch) (x0 : Int32) {o : Int32} (h : f_J1_canEncode_9a6ad x0 = some o) : mPi l yJ1_canEncode_9a6ad wo_J1_canEncode_9a6ad 0 [.int x0] o := by
  refine Met.ofW (cc := cJ1_canEncode_9a6ad) (maxL := 1) (ret := some .boolean) (by decide) rfl ?_
  intro p e s m args below meth c s₁ B hml hv
  obtain ⟨rfl, -⟩ := hv
  rw [lg_entry_eq]
  exact core_J1_canEncode_9a6ad x0 B.exec B.bytes hml B.returns (atoms_spec (ws := wo_J1_canEncode_9a6ad) B.pre) (findClass_of_methodNamed B.named) B.notSynchronized (lv_entry [.int x0] (n := 1) (Nat.le_of_ble_eq_true rfl)) h
theorem qd_J1_canEncode_9a6ad : yJ1_canEncode_9a6ad.cls ≠ "java/lang/invoke/MethodHandle" ∧ yJ1_canEncode_9a6ad.cls ≠ "java/lang/invoke/VarHandle" ∧ (parseMethodDescriptor yJ1_canEncode_9a6ad.desc).map (fun d => d.parameters.length) = some 1 := by decide +kernel
abbrev wo_J1_indexOfChar_4cfef : List Cond := .code yJ1_indexOfChar_4cfef cJ1_indexOfChar_4cfef 6 (some .int) :: wsL_law
set_option maxHeartbeats 4000000 in
set_option maxRecDepth 100000 in
theorem core_J1_indexOfChar_4cfef {N : Nat} (zb zv : Nat) (x1 : Int32) (x2 : Int32) (x3 : Int32) {p : Program} {l : Launch} {e : Env} {s : State} {m : MethodId} {args : Array Value} {below : List Frame} {meth : Method} {c : Code} {ls : Array Slot} (hx : p.tables.exec = Jvm.exec) (hb : c.code = cJ1_indexOfChar_4cfef) (hml : c.maxLocals = 6) (hr : meth.sig.returnType = some .int) (hts : ∀ w ∈ wo_J1_indexOfChar_4cfef, w.before args s = true) (hown : s.vm.findClass RJ1 = some m.cls) (hlocks : meth.locks = false) (hl : lv_has ls 6 [(0, .ref zv), (1, .int x1), (2, .int x2), (3, .int x3)]) (hZ : zS zb zv (fun _ => False) s s.heap) {o : Int32} (h : f_J1_indexOfChar_4cfef N x1 x2 x3 = some o) : gRi p l e wo_J1_indexOfChar_4cfef 0 s m args below meth c o (F0 m 0 ls []) := by
  unfold f_J1_indexOfChar_4cfef at h
  have hS : va_S (fun _ => False) s.heap s.heap [] := va_S.rf
  have L7 : ∀ (n7 : Nat) (x3 : Int32) (x4 : Int32) (x5 : Int32) (ls : Array Slot) (hl : lv_has ls 6 [(0, .ref zv), (3, .int x3), (4, .int x4), (5, .int x5)]) (h : f_J1_indexOfChar_4cfef_7 N n7 x3 x4 x5 = some o), gRi p l e wo_J1_indexOfChar_4cfef 0 s m args below meth c o (F0 m 7 ls []) := by
    intro n7
    induction n7 with
    | zero => intro x3 x4 x5 ls hl h; cases (show (none : Option (Int32)) = some o from h)
    | succ n7 ih7 =>
      intro x3 x4 x5 ls hl h
      rw [f_J1_indexOfChar_4cfef_7] at h
      refine lv_iload hx hb dJ1_indexOfChar_4cfef_7 (lv_at hl 3 rfl) ?_
      refine lv_iload_n hx hb dJ1_indexOfChar_4cfef_9 rfl (lv_at hl 1 rfl) ?_
      refine lv_icmp_ge (tgt := 31) hx hb dJ1_indexOfChar_4cfef_10 (by decide) (fun c1 => ?_) (fun c1 => ?_)
      · replace h := (if_pos c1).symm.trans h
        refine lv_iconst (v := (-1)) hx hb dJ1_indexOfChar_4cfef_31 (by decide) ?_
        exact W.iret (v := (-1)) hx hb hr (fun t ht hW => ⟨_, rfl, Option.some.inj h, ht⟩) (fun q hq => by cases hq) dJ1_indexOfChar_4cfef_32
      · replace h := (if_neg c1).symm.trans h
        refine lv_aload_n hx hb dJ1_indexOfChar_4cfef_13 rfl (lv_at hl 0 rfl) ?_
        refine lv_iload hx hb dJ1_indexOfChar_4cfef_14 (lv_at hl 3 rfl) ?_
        obtain ⟨g2, h⟩ := gIn_some h
        refine va_tb (v := .int (zBytes x5.toNatClampNeg)) hx hb (hZ.1.1 0 (by decide)).2.2.2 hS g2 rfl dJ1_indexOfChar_4cfef_16 ?_
        refine lv_iload hx hb dJ1_indexOfChar_4cfef_17 (lv_at hl 2 rfl) ?_
        refine lv_icmp_ne (tgt := 25) hx hb dJ1_indexOfChar_4cfef_19 (by decide) (fun c3 => ?_) (fun c3 => ?_)
        · replace h := (if_neg c3).symm.trans h
          refine lv_iinc (v := (x5 + 1)) (lv' := [(5, .int (x5 + 1)), (0, .ref zv), (3, .int x3), (4, .int x4)]) hx hb dJ1_indexOfChar_4cfef_25 hl (k := 3) rfl rfl (by decide) rfl (fun ls hl => ?_)
          refine lv_goto (tgt := 7) hx hb dJ1_indexOfChar_4cfef_28 (by decide) ?_
          exact ih7 x3 x4 (x5 + 1) ls (lv_sub hl [1, 2, 3, 0] rfl) h
        · replace h := (if_pos c3).symm.trans h
          refine lv_iload hx hb dJ1_indexOfChar_4cfef_22 (lv_at hl 3 rfl) ?_
          exact W.iret (v := x5) hx hb hr (fun t ht hW => ⟨_, rfl, Option.some.inj h, ht⟩) (fun q hq => by cases hq) dJ1_indexOfChar_4cfef_24
  refine lv_iload_n hx hb dJ1_indexOfChar_4cfef_0 rfl (lv_at hl 1 rfl) ?_
  refine lv_i2b (v := x1.toInt8.toInt32) hx hb dJ1_indexOfChar_4cfef_1 rfl ?_
  refine lv_istore (lv' := [(4, .int x1.toInt8.toInt32), (0, .ref zv), (1, .int x1), (2, .int x2), (3, .int x3)]) hx hb dJ1_indexOfChar_4cfef_2 hl (by decide) rfl (fun ls hl => ?_)
  refine lv_iload_n hx hb dJ1_indexOfChar_4cfef_4 rfl (lv_at hl 3 rfl) ?_
  refine lv_istore (lv' := [(5, .int x2), (4, .int x1.toInt8.toInt32), (0, .ref zv), (1, .int x1), (2, .int x2), (3, .int x3)]) hx hb dJ1_indexOfChar_4cfef_5 hl (by decide) rfl (fun ls hl => ?_)
  exact L7 N x3 x1.toInt8.toInt32 x2 ls (lv_sub hl [2, 5, 1, 0] rfl) h
set_option maxHeartbeats 4000000 in
set_option maxRecDepth 100000 in
theorem c_J1_indexOfChar_4cfef {N : Nat} (l : Launch) (zb zv : Nat) (x1 : Int32) (x2 : Int32) (x3 : Int32) {o : Int32} (h : f_J1_indexOfChar_4cfef N x1 x2 x3 = some o) : mZi l yJ1_indexOfChar_4cfef wo_J1_indexOfChar_4cfef 0 zb zv [.ref zv, .int x1, .int x2, .int x3] o := by
  refine Met.ofW (cc := cJ1_indexOfChar_4cfef) (maxL := 6) (ret := some .int) (by decide) rfl ?_
  intro p e s m args below meth c s₁ B hml hv
  obtain ⟨rfl, hZ⟩ := hv
  rw [lg_entry_eq]
  exact core_J1_indexOfChar_4cfef zb zv x1 x2 x3 B.exec B.bytes hml B.returns (atoms_spec (ws := wo_J1_indexOfChar_4cfef) B.pre) (findClass_of_methodNamed B.named) B.notSynchronized (lv_entry [.ref zv, .int x1, .int x2, .int x3] (n := 6) (Nat.le_of_ble_eq_true rfl)) hZ h
theorem qd_J1_indexOfChar_4cfef : yJ1_indexOfChar_4cfef.cls ≠ "java/lang/invoke/MethodHandle" ∧ yJ1_indexOfChar_4cfef.cls ≠ "java/lang/invoke/VarHandle" ∧ (parseMethodDescriptor yJ1_indexOfChar_4cfef.desc).map (fun d => d.parameters.length) = some 4 := by decide +kernel
abbrev wo_J1_indexOf_4cfef : List Cond := .code yJ1_indexOf_4cfef cJ1_indexOf_4cfef 4 (some .int) :: wsL_law
set_option maxHeartbeats 4000000 in
set_option maxRecDepth 100000 in
theorem core_J1_indexOf_4cfef {N : Nat} (zb zv : Nat) (x1 : Int32) (x2 : Int32) (x3 : Int32) {p : Program} {l : Launch} {e : Env} {s : State} {m : MethodId} {args : Array Value} {below : List Frame} {meth : Method} {c : Code} {ls : Array Slot} (hx : p.tables.exec = Jvm.exec) (hb : c.code = cJ1_indexOf_4cfef) (hml : c.maxLocals = 4) (hr : meth.sig.returnType = some .int) (hts : ∀ w ∈ wo_J1_indexOf_4cfef, w.before args s = true) (hown : s.vm.findClass RJ1 = some m.cls) (hlocks : meth.locks = false) (hl : lv_has ls 4 [(0, .ref zv), (1, .int x1), (2, .int x2), (3, .int x3)]) (hZ : zS zb zv (fun _ => False) s s.heap) {o : Int32} (h : f_J1_indexOf_4cfef N x1 x2 x3 = some o) : gRi p l e wo_J1_indexOf_4cfef 1 s m args below meth c o (F0 m 0 ls []) := by
  have ml92 := hts _ (List.mem_cons_of_mem _ wm_311)
  have ms92 := hts _ (List.mem_cons_of_mem _ wm_206)
  have mi92 := hts _ (List.mem_cons_of_mem _ wm_207)
  have mc92 := hts _ (List.mem_cons_of_mem _ wm_208)
  have ml38 := hts _ (List.mem_cons_of_mem _ wm_312)
  have ms38 := hts _ (List.mem_cons_of_mem _ wm_313)
  have mi38 := hts _ (List.mem_cons_of_mem _ wm_207)
  have mc38 := hts _ (List.mem_cons_of_mem _ wm_314)
  unfold f_J1_indexOf_4cfef at h
  have hS : va_S (fun _ => False) s.heap s.heap [] := va_S.rf
  refine lv_iload_n hx hb dJ1_indexOf_4cfef_0 rfl (lv_at hl 1 rfl) ?_
  obtain ⟨o1, eq2, h⟩ := bnd_some h
  refine kPi (rest := []) ⟨hx, hb, hml, hown, hts⟩ (c_J1_canEncode_9a6ad l x1 eq2) (va_cwS 1 hts (gAS wm_315 wm_316 wm_309 wm_317) rfl rfl rfl qd_J1_canEncode_9a6ad ⟨Nat.le_of_ble_eq_true rfl, Nat.le_of_ble_eq_true rfl⟩) rfl hl.1 rfl (Nat.le_of_ble_eq_true rfl) dJ1_indexOf_4cfef_1 ⟨Nat.zero_le _, Nat.zero_le _⟩ ?_
  refine lv_if_ne (tgt := 9) hx hb dJ1_indexOf_4cfef_4 (by decide) (fun c3 => ?_) (fun c3 => ?_)
  · replace h := (if_neg c3).symm.trans h
    refine lv_iload_n hx hb dJ1_indexOf_4cfef_9 rfl (lv_at hl 2 rfl) ?_
    refine lv_iconst (v := 0) hx hb dJ1_indexOf_4cfef_10 (by decide) ?_
    refine va_mmax hx hb (hml.trans hl.1.symm) hown ml92 ms92 mi92 mc92 (Nat.le_of_ble_eq_true rfl) (Nat.le_of_ble_eq_true rfl) (Nat.zero_le _) (Nat.zero_le _) dJ1_indexOf_4cfef_11 ?_
    refine lv_istore_n (lv' := [(2, .int (if x2 < 0 then 0 else x2)), (0, .ref zv), (1, .int x1), (3, .int x3)]) hx hb dJ1_indexOf_4cfef_14 rfl hl (by decide) rfl (fun ls hl => ?_)
    refine lv_iload_n hx hb dJ1_indexOf_4cfef_15 rfl (lv_at hl 3 rfl) ?_
    refine lv_aload_n hx hb dJ1_indexOf_4cfef_16 rfl (lv_at hl 1 rfl) ?_
    refine va_tlen (v := 7) hx hb (hZ.1.1 0 (by decide)).2.2.2 hS rfl dJ1_indexOf_4cfef_17 ?_
    refine va_mmin hx hb (hml.trans hl.1.symm) hown ml38 ms38 mi38 mc38 (Nat.le_of_ble_eq_true rfl) (Nat.le_of_ble_eq_true rfl) (Nat.zero_le _) (Nat.zero_le _) dJ1_indexOf_4cfef_18 ?_
    refine lv_istore_n (lv' := [(3, .int (if 7 < x3 then 7 else x3)), (2, .int (if x2 < 0 then 0 else x2)), (0, .ref zv), (1, .int x1)]) hx hb dJ1_indexOf_4cfef_21 rfl hl (by decide) rfl (fun ls hl => ?_)
    refine lv_iload_n hx hb dJ1_indexOf_4cfef_22 rfl (lv_at hl 1 rfl) ?_
    refine lv_iload_n hx hb dJ1_indexOf_4cfef_23 rfl (lv_at hl 0 rfl) ?_
    refine lv_icmp_lt (tgt := 29) hx hb dJ1_indexOf_4cfef_24 (by decide) (fun c4 => ?_) (fun c4 => ?_)
    · replace h := (if_pos c4).symm.trans h
      refine lv_aload_n hx hb dJ1_indexOf_4cfef_29 rfl (lv_at hl 2 rfl) ?_
      refine lv_iload_n hx hb dJ1_indexOf_4cfef_30 rfl (lv_at hl 3 rfl) ?_
      refine lv_iload_n hx hb dJ1_indexOf_4cfef_31 rfl (lv_at hl 1 rfl) ?_
      refine lv_iload_n hx hb dJ1_indexOf_4cfef_32 rfl (lv_at hl 0 rfl) ?_
      obtain ⟨o5, eq6, h⟩ := bnd_some h
      refine kZiS (rest := []) ⟨hx, hb, hml, hown, hts⟩ (c_J1_indexOfChar_4cfef l zb zv x1 (if x2 < 0 then 0 else x2) (if 7 < x3 then 7 else x3) eq6) (va_cwS 4 hts (gAS wm_318 wm_319 wm_309 wm_320) rfl rfl rfl qd_J1_indexOfChar_4cfef ⟨Nat.le_of_ble_eq_true rfl, Nat.le_of_ble_eq_true rfl⟩) hZ hS rfl hl.1 rfl (Nat.le_of_ble_eq_true rfl) dJ1_indexOf_4cfef_33 ⟨Nat.zero_le _, Nat.zero_le _⟩ ?_
      exact W.iret (v := o5) hx hb hr (fun t ht hW => ⟨_, rfl, Option.some.inj h, ht⟩) (fun q hq => by cases hq) dJ1_indexOf_4cfef_36
    · replace h := (if_neg c4).symm.trans h
      refine lv_iconst (v := (-1)) hx hb dJ1_indexOf_4cfef_27 (by decide) ?_
      exact W.iret (v := (-1)) hx hb hr (fun t ht hW => ⟨_, rfl, Option.some.inj h, ht⟩) (fun q hq => by cases hq) dJ1_indexOf_4cfef_28
  · replace h := (if_pos c3).symm.trans h
    refine lv_iconst (v := (-1)) hx hb dJ1_indexOf_4cfef_7 (by decide) ?_
    exact W.iret (v := (-1)) hx hb hr (fun t ht hW => ⟨_, rfl, Option.some.inj h, ht⟩) (fun q hq => by cases hq) dJ1_indexOf_4cfef_8
set_option maxHeartbeats 4000000 in
set_option maxRecDepth 100000 in
theorem c_J1_indexOf_4cfef {N : Nat} (l : Launch) (zb zv : Nat) (x1 : Int32) (x2 : Int32) (x3 : Int32) {o : Int32} (h : f_J1_indexOf_4cfef N x1 x2 x3 = some o) : mZi l yJ1_indexOf_4cfef wo_J1_indexOf_4cfef 1 zb zv [.ref zv, .int x1, .int x2, .int x3] o := by
  refine Met.ofW (cc := cJ1_indexOf_4cfef) (maxL := 4) (ret := some .int) (by decide) rfl ?_
  intro p e s m args below meth c s₁ B hml hv
  obtain ⟨rfl, hZ⟩ := hv
  rw [lg_entry_eq]
  exact core_J1_indexOf_4cfef zb zv x1 x2 x3 B.exec B.bytes hml B.returns (atoms_spec (ws := wo_J1_indexOf_4cfef) B.pre) (findClass_of_methodNamed B.named) B.notSynchronized (lv_entry [.ref zv, .int x1, .int x2, .int x3] (n := 4) (Nat.le_of_ble_eq_true rfl)) hZ h
theorem qd_J1_indexOf_4cfef : yJ1_indexOf_4cfef.cls ≠ "java/lang/invoke/MethodHandle" ∧ yJ1_indexOf_4cfef.cls ≠ "java/lang/invoke/VarHandle" ∧ (parseMethodDescriptor yJ1_indexOf_4cfef.desc).map (fun d => d.parameters.length) = some 4 := by decide +kernel
abbrev wo_J0_coder_7d493 : List Cond := .code yJ0_coder_7d493 cJ0_coder_7d493 1 (some .byte) :: wsL_law
set_option maxHeartbeats 4000000 in
set_option maxRecDepth 100000 in
theorem core_J0_coder_7d493 (zb zv : Nat)  {p : Program} {l : Launch} {e : Env} {s : State} {m : MethodId} {args : Array Value} {below : List Frame} {meth : Method} {c : Code} {ls : Array Slot} (hx : p.tables.exec = Jvm.exec) (hb : c.code = cJ0_coder_7d493) (hml : c.maxLocals = 1) (hr : meth.sig.returnType = some .byte) (hts : ∀ w ∈ wo_J0_coder_7d493, w.before args s = true) (hown : s.vm.findClass RJ0 = some m.cls) (hlocks : meth.locks = false) (hl : lv_has ls 1 [(0, .ref zb)]) (hZ : zS zb zv (fun _ => False) s s.heap) {o : Int32} (h : f_J0_coder_7d493  = some o) : gRi p l e wo_J0_coder_7d493 0 s m args below meth c o (F0 m 0 ls []) := by
  have kf38 := hts _ (List.mem_cons_of_mem _ wm_297)
  have kf15 := hts _ (List.mem_cons_of_mem _ wm_298)
  unfold f_J0_coder_7d493 at h
  have hS : va_S (fun _ => False) s.heap s.heap [] := va_S.rf
  refine va_gets (v := .int 1) hx hb hZ.2.1 hS hown kf38 (fun _ h9 => h9) dJ0_coder_7d493_0 ?_
  refine lv_if_eq (tgt := 13) hx hb dJ0_coder_7d493_3 (by decide) (fun c1 => ?_) (fun c1 => ?_)
  · exact absurd c1 (by decide)
  · refine lv_aload_n hx hb dJ0_coder_7d493_6 rfl (lv_at hl 0 rfl) ?_
    refine vk_getf (v := .int 0) hx hb (hZ.1.1 0 (by decide)).2.1 hS hown kf15 (fun _ h9 => h9) dJ0_coder_7d493_7 ?_
    refine lv_goto (tgt := 14) hx hb dJ0_coder_7d493_10 (by decide) ?_
    exact W.zret (v := 0) hx hb hr rfl (fun t ht hW => ⟨_, rfl, Option.some.inj h, ht⟩) (fun q hq => by cases hq) dJ0_coder_7d493_14
set_option maxHeartbeats 4000000 in
set_option maxRecDepth 100000 in
theorem c_J0_coder_7d493 (l : Launch) (zb zv : Nat)  {o : Int32} (h : f_J0_coder_7d493  = some o) : mZi l yJ0_coder_7d493 wo_J0_coder_7d493 0 zb zv [.ref zb] o := by
  refine Met.ofW (cc := cJ0_coder_7d493) (maxL := 1) (ret := some .byte) (by decide) rfl ?_
  intro p e s m args below meth c s₁ B hml hv
  obtain ⟨rfl, hZ⟩ := hv
  rw [lg_entry_eq]
  exact core_J0_coder_7d493 zb zv  B.exec B.bytes hml B.returns (atoms_spec (ws := wo_J0_coder_7d493) B.pre) (findClass_of_methodNamed B.named) B.notSynchronized (lv_entry [.ref zb] (n := 1) (Nat.le_of_ble_eq_true rfl)) hZ h
theorem qd_J0_coder_7d493 : yJ0_coder_7d493.cls = RJ0 ∧ yJ0_coder_7d493.cls ≠ "java/lang/invoke/MethodHandle" ∧ yJ0_coder_7d493.cls ≠ "java/lang/invoke/VarHandle" ∧ (parseMethodDescriptor yJ0_coder_7d493.desc).map (fun d => d.parameters.length) = some 0 := by decide +kernel
abbrev wo_J0_isLatin1_aae02 : List Cond := .code yJ0_isLatin1_aae02 cJ0_isLatin1_aae02 1 (some .boolean) :: wsL_law
set_option maxHeartbeats 4000000 in
set_option maxRecDepth 100000 in
theorem core_J0_isLatin1_aae02 (zb zv : Nat)  {p : Program} {l : Launch} {e : Env} {s : State} {m : MethodId} {args : Array Value} {below : List Frame} {meth : Method} {c : Code} {ls : Array Slot} (hx : p.tables.exec = Jvm.exec) (hb : c.code = cJ0_isLatin1_aae02) (hml : c.maxLocals = 1) (hr : meth.sig.returnType = some .boolean) (hts : ∀ w ∈ wo_J0_isLatin1_aae02, w.before args s = true) (hown : s.vm.findClass RJ0 = some m.cls) (hlocks : meth.locks = false) (hl : lv_has ls 1 [(0, .ref zb)]) (hZ : zS zb zv (fun _ => False) s s.heap) {o : Int32} (h : f_J0_isLatin1_aae02  = some o) : gRi p l e wo_J0_isLatin1_aae02 0 s m args below meth c o (F0 m 0 ls []) := by
  have kf38 := hts _ (List.mem_cons_of_mem _ wm_297)
  have kf15 := hts _ (List.mem_cons_of_mem _ wm_298)
  unfold f_J0_isLatin1_aae02 at h
  have hS : va_S (fun _ => False) s.heap s.heap [] := va_S.rf
  refine va_gets (v := .int 1) hx hb hZ.2.1 hS hown kf38 (fun _ h9 => h9) dJ0_isLatin1_aae02_0 ?_
  refine lv_if_eq (tgt := 17) hx hb dJ0_isLatin1_aae02_3 (by decide) (fun c1 => ?_) (fun c1 => ?_)
  · exact absurd c1 (by decide)
  · refine lv_aload_n hx hb dJ0_isLatin1_aae02_6 rfl (lv_at hl 0 rfl) ?_
    refine vk_getf (v := .int 0) hx hb (hZ.1.1 0 (by decide)).2.1 hS hown kf15 (fun _ h9 => h9) dJ0_isLatin1_aae02_7 ?_
    refine lv_if_ne (tgt := 17) hx hb dJ0_isLatin1_aae02_10 (by decide) (fun c2 => ?_) (fun c2 => ?_)
    · exact absurd c2 (by decide)
    · refine lv_iconst (v := 1) hx hb dJ0_isLatin1_aae02_13 (by decide) ?_
      refine lv_goto (tgt := 18) hx hb dJ0_isLatin1_aae02_14 (by decide) ?_
      exact W.zret (v := 1) hx hb hr rfl (fun t ht hW => ⟨_, rfl, Option.some.inj h, ht⟩) (fun q hq => by cases hq) dJ0_isLatin1_aae02_18
set_option maxHeartbeats 4000000 in
set_option maxRecDepth 100000 in
theorem c_J0_isLatin1_aae02 (l : Launch) (zb zv : Nat)  {o : Int32} (h : f_J0_isLatin1_aae02  = some o) : mZi l yJ0_isLatin1_aae02 wo_J0_isLatin1_aae02 0 zb zv [.ref zb] o := by
  refine Met.ofW (cc := cJ0_isLatin1_aae02) (maxL := 1) (ret := some .boolean) (by decide) rfl ?_
  intro p e s m args below meth c s₁ B hml hv
  obtain ⟨rfl, hZ⟩ := hv
  rw [lg_entry_eq]
  exact core_J0_isLatin1_aae02 zb zv  B.exec B.bytes hml B.returns (atoms_spec (ws := wo_J0_isLatin1_aae02) B.pre) (findClass_of_methodNamed B.named) B.notSynchronized (lv_entry [.ref zb] (n := 1) (Nat.le_of_ble_eq_true rfl)) hZ h
theorem qd_J0_isLatin1_aae02 : yJ0_isLatin1_aae02.cls = RJ0 ∧ yJ0_isLatin1_aae02.cls ≠ "java/lang/invoke/MethodHandle" ∧ yJ0_isLatin1_aae02.cls ≠ "java/lang/invoke/VarHandle" ∧ (parseMethodDescriptor yJ0_isLatin1_aae02.desc).map (fun d => d.parameters.length) = some 0 := by decide +kernel
abbrev wo_J0_length_8abf5 : List Cond := .code yJ0_length_8abf5 cJ0_length_8abf5 1 (some .int) :: wsL_law
set_option maxHeartbeats 4000000 in
set_option maxRecDepth 100000 in
theorem core_J0_length_8abf5 (zb zv : Nat)  {p : Program} {l : Launch} {e : Env} {s : State} {m : MethodId} {args : Array Value} {below : List Frame} {meth : Method} {c : Code} {ls : Array Slot} (hx : p.tables.exec = Jvm.exec) (hb : c.code = cJ0_length_8abf5) (hml : c.maxLocals = 1) (hr : meth.sig.returnType = some .int) (hts : ∀ w ∈ wo_J0_length_8abf5, w.before args s = true) (hown : s.vm.findClass RJ0 = some m.cls) (hlocks : meth.locks = false) (hl : lv_has ls 1 [(0, .ref zb)]) (hZ : zS zb zv (fun _ => False) s s.heap) {o : Int32} (h : f_J0_length_8abf5  = some o) : gRi p l e wo_J0_length_8abf5 1 s m args below meth c o (F0 m 0 ls []) := by
  have kf9 := hts _ (List.mem_cons_of_mem _ wm_292)
  unfold f_J0_length_8abf5 at h
  have hS : va_S (fun _ => False) s.heap s.heap [] := va_S.rf
  refine lv_aload_n hx hb dJ0_length_8abf5_0 rfl (lv_at hl 0 rfl) ?_
  refine vk_getf (v := .ref zv) hx hb (hZ.1.1 0 (by decide)).2.2.1 hS hown kf9 (fun _ h9 => h9) dJ0_length_8abf5_1 ?_
  refine va_tlen (v := 7) hx hb (hZ.1.1 0 (by decide)).2.2.2 hS rfl dJ0_length_8abf5_4 ?_
  refine lv_aload_n hx hb dJ0_length_8abf5_5 rfl (lv_at hl 0 rfl) ?_
  refine kZiV (rest := [.int 7]) ⟨hx, hb, hml, hown, hts⟩ (c_J0_coder_7d493 l zb zv  rfl) (cwV 0 hts (gAV wm_303 wm_304 wm_305 wm_286 wm_306) rfl rfl rfl qd_J0_coder_7d493 ⟨Nat.le_of_ble_eq_true rfl, Nat.le_of_ble_eq_true rfl⟩) hZ hS rfl hl.1 rfl (Nat.le_of_ble_eq_true rfl) dJ0_length_8abf5_6 ⟨Nat.zero_le _, Nat.zero_le _⟩ ?_
  refine lv_ishr hx hb dJ0_length_8abf5_9 ?_
  exact W.iret (v := ((7 : Int32) >>> ((0 : Int32) &&& 31))) hx hb hr (fun t ht hW => ⟨_, rfl, Option.some.inj h, ht⟩) (fun q hq => by cases hq) dJ0_length_8abf5_10
set_option maxHeartbeats 4000000 in
set_option maxRecDepth 100000 in
theorem c_J0_length_8abf5 (l : Launch) (zb zv : Nat)  {o : Int32} (h : f_J0_length_8abf5  = some o) : mZi l yJ0_length_8abf5 wo_J0_length_8abf5 1 zb zv [.ref zb] o := by
  refine Met.ofW (cc := cJ0_length_8abf5) (maxL := 1) (ret := some .int) (by decide) rfl ?_
  intro p e s m args below meth c s₁ B hml hv
  obtain ⟨rfl, hZ⟩ := hv
  rw [lg_entry_eq]
  exact core_J0_length_8abf5 zb zv  B.exec B.bytes hml B.returns (atoms_spec (ws := wo_J0_length_8abf5) B.pre) (findClass_of_methodNamed B.named) B.notSynchronized (lv_entry [.ref zb] (n := 1) (Nat.le_of_ble_eq_true rfl)) hZ h
theorem qd_J0_length_8abf5 : yJ0_length_8abf5.cls = RJ0 ∧ yJ0_length_8abf5.cls ≠ "java/lang/invoke/MethodHandle" ∧ yJ0_length_8abf5.cls ≠ "java/lang/invoke/VarHandle" ∧ (parseMethodDescriptor yJ0_length_8abf5.desc).map (fun d => d.parameters.length) = some 0 := by decide +kernel
abbrev wo_J0_indexOf_7cf53 : List Cond := .code yJ0_indexOf_7cf53 cJ0_indexOf_7cf53 3 (some .int) :: wsL_law
set_option maxHeartbeats 4000000 in
set_option maxRecDepth 100000 in
theorem core_J0_indexOf_7cf53 {N : Nat} (zb zv : Nat) (x1 : Int32) (x2 : Int32) {p : Program} {l : Launch} {e : Env} {s : State} {m : MethodId} {args : Array Value} {below : List Frame} {meth : Method} {c : Code} {ls : Array Slot} (hx : p.tables.exec = Jvm.exec) (hb : c.code = cJ0_indexOf_7cf53) (hml : c.maxLocals = 3) (hr : meth.sig.returnType = some .int) (hts : ∀ w ∈ wo_J0_indexOf_7cf53, w.before args s = true) (hown : s.vm.findClass RJ0 = some m.cls) (hlocks : meth.locks = false) (hl : lv_has ls 3 [(0, .ref zb), (1, .int x1), (2, .int x2)]) (hZ : zS zb zv (fun _ => False) s s.heap) {o : Int32} (h : f_J0_indexOf_7cf53 N x1 x2 = some o) : gRi p l e wo_J0_indexOf_7cf53 2 s m args below meth c o (F0 m 0 ls []) := by
  have kf9 := hts _ (List.mem_cons_of_mem _ wm_292)
  unfold f_J0_indexOf_7cf53 at h
  have hS : va_S (fun _ => False) s.heap s.heap [] := va_S.rf
  refine lv_aload_n hx hb dJ0_indexOf_7cf53_0 rfl (lv_at hl 0 rfl) ?_
  refine kZiV (rest := []) ⟨hx, hb, hml, hown, hts⟩ (c_J0_isLatin1_aae02 l zb zv  rfl) (cwV 0 hts (gAV wm_293 wm_294 wm_295 wm_286 wm_296) rfl rfl rfl qd_J0_isLatin1_aae02 ⟨Nat.le_of_ble_eq_true rfl, Nat.le_of_ble_eq_true rfl⟩) hZ hS rfl hl.1 rfl (Nat.le_of_ble_eq_true rfl) dJ0_indexOf_7cf53_1 ⟨Nat.zero_le _, Nat.zero_le _⟩ ?_
  refine lv_if_eq (tgt := 23) hx hb dJ0_indexOf_7cf53_4 (by decide) (fun c1 => ?_) (fun c1 => ?_)
  · exact absurd c1 (by decide)
  · refine lv_aload_n hx hb dJ0_indexOf_7cf53_7 rfl (lv_at hl 0 rfl) ?_
    refine vk_getf (v := .ref zv) hx hb (hZ.1.1 0 (by decide)).2.2.1 hS hown kf9 (fun _ h9 => h9) dJ0_indexOf_7cf53_8 ?_
    refine lv_iload_n hx hb dJ0_indexOf_7cf53_11 rfl (lv_at hl 1 rfl) ?_
    refine lv_iload_n hx hb dJ0_indexOf_7cf53_12 rfl (lv_at hl 2 rfl) ?_
    refine lv_aload_n hx hb dJ0_indexOf_7cf53_13 rfl (lv_at hl 0 rfl) ?_
    obtain ⟨o2, eq3, h⟩ := bnd_some h
    refine kZiV (rest := [.int x2, .int x1, .ref zv]) ⟨hx, hb, hml, hown, hts⟩ (c_J0_length_8abf5 l zb zv  eq3) (cwV 0 hts (gAV wm_299 wm_300 wm_301 wm_286 wm_302) rfl rfl rfl qd_J0_length_8abf5 ⟨Nat.le_of_ble_eq_true rfl, Nat.le_of_ble_eq_true rfl⟩) hZ hS rfl hl.1 rfl (Nat.le_of_ble_eq_true rfl) dJ0_indexOf_7cf53_14 ⟨Nat.zero_le _, Nat.zero_le _⟩ ?_
    obtain ⟨o4, eq5, h⟩ := bnd_some h
    refine kZiS (rest := []) ⟨hx, hb, hml, hown, hts⟩ (c_J1_indexOf_4cfef l zb zv x1 x2 o2 eq5) (va_cwS 4 hts (gAS wm_307 wm_308 wm_309 wm_310) rfl rfl rfl qd_J1_indexOf_4cfef ⟨Nat.le_of_ble_eq_true rfl, Nat.le_of_ble_eq_true rfl⟩) hZ hS rfl hl.1 rfl (Nat.le_of_ble_eq_true rfl) dJ0_indexOf_7cf53_17 ⟨Nat.zero_le _, Nat.zero_le _⟩ ?_
    refine lv_goto (tgt := 36) hx hb dJ0_indexOf_7cf53_20 (by decide) ?_
    exact W.iret (v := o4) hx hb hr (fun t ht hW => ⟨_, rfl, Option.some.inj h, ht⟩) (fun q hq => by cases hq) dJ0_indexOf_7cf53_36
set_option maxHeartbeats 4000000 in
set_option maxRecDepth 100000 in
theorem c_J0_indexOf_7cf53 {N : Nat} (l : Launch) (zb zv : Nat) (x1 : Int32) (x2 : Int32) {o : Int32} (h : f_J0_indexOf_7cf53 N x1 x2 = some o) : mZi l yJ0_indexOf_7cf53 wo_J0_indexOf_7cf53 2 zb zv [.ref zb, .int x1, .int x2] o := by
  refine Met.ofW (cc := cJ0_indexOf_7cf53) (maxL := 3) (ret := some .int) (by decide) rfl ?_
  intro p e s m args below meth c s₁ B hml hv
  obtain ⟨rfl, hZ⟩ := hv
  rw [lg_entry_eq]
  exact core_J0_indexOf_7cf53 zb zv x1 x2 B.exec B.bytes hml B.returns (atoms_spec (ws := wo_J0_indexOf_7cf53) B.pre) (findClass_of_methodNamed B.named) B.notSynchronized (lv_entry [.ref zb, .int x1, .int x2] (n := 3) (Nat.le_of_ble_eq_true rfl)) hZ h
theorem qd_J0_indexOf_7cf53 : yJ0_indexOf_7cf53.cls = RJ0 ∧ yJ0_indexOf_7cf53.cls ≠ "java/lang/invoke/MethodHandle" ∧ yJ0_indexOf_7cf53.cls ≠ "java/lang/invoke/VarHandle" ∧ (parseMethodDescriptor yJ0_indexOf_7cf53.desc).map (fun d => d.parameters.length) = some 2 := by decide +kernel
abbrev wo_J0_indexOf_0f7a4 : List Cond := .code yJ0_indexOf_0f7a4 cJ0_indexOf_0f7a4 2 (some .int) :: wsL_law
set_option maxHeartbeats 4000000 in
set_option maxRecDepth 100000 in
theorem core_J0_indexOf_0f7a4 {N : Nat} (zb zv : Nat) (x1 : Int32) {p : Program} {l : Launch} {e : Env} {s : State} {m : MethodId} {args : Array Value} {below : List Frame} {meth : Method} {c : Code} {ls : Array Slot} (hx : p.tables.exec = Jvm.exec) (hb : c.code = cJ0_indexOf_0f7a4) (hml : c.maxLocals = 2) (hr : meth.sig.returnType = some .int) (hts : ∀ w ∈ wo_J0_indexOf_0f7a4, w.before args s = true) (hown : s.vm.findClass RJ0 = some m.cls) (hlocks : meth.locks = false) (hl : lv_has ls 2 [(0, .ref zb), (1, .int x1)]) (hZ : zS zb zv (fun _ => False) s s.heap) {o : Int32} (h : f_J0_indexOf_0f7a4 N x1 = some o) : gRi p l e wo_J0_indexOf_0f7a4 3 s m args below meth c o (F0 m 0 ls []) := by
  unfold f_J0_indexOf_0f7a4 at h
  have hS : va_S (fun _ => False) s.heap s.heap [] := va_S.rf
  refine lv_aload_n hx hb dJ0_indexOf_0f7a4_0 rfl (lv_at hl 0 rfl) ?_
  refine lv_iload_n hx hb dJ0_indexOf_0f7a4_1 rfl (lv_at hl 1 rfl) ?_
  refine lv_iconst (v := 0) hx hb dJ0_indexOf_0f7a4_2 (by decide) ?_
  obtain ⟨o1, eq2, h⟩ := bnd_some h
  refine kZiV (rest := []) ⟨hx, hb, hml, hown, hts⟩ (c_J0_indexOf_7cf53 l zb zv x1 0 eq2) (cwV 2 hts (gAV wm_288 wm_289 wm_290 wm_286 wm_291) rfl rfl rfl qd_J0_indexOf_7cf53 ⟨Nat.le_of_ble_eq_true rfl, Nat.le_of_ble_eq_true rfl⟩) hZ hS rfl hl.1 rfl (Nat.le_of_ble_eq_true rfl) dJ0_indexOf_0f7a4_3 ⟨Nat.zero_le _, Nat.zero_le _⟩ ?_
  exact W.iret (v := o1) hx hb hr (fun t ht hW => ⟨_, rfl, Option.some.inj h, ht⟩) (fun q hq => by cases hq) dJ0_indexOf_0f7a4_6
set_option maxHeartbeats 4000000 in
set_option maxRecDepth 100000 in
theorem c_J0_indexOf_0f7a4 {N : Nat} (l : Launch) (zb zv : Nat) (x1 : Int32) {o : Int32} (h : f_J0_indexOf_0f7a4 N x1 = some o) : mZi l yJ0_indexOf_0f7a4 wo_J0_indexOf_0f7a4 3 zb zv [.ref zb, .int x1] o := by
  refine Met.ofW (cc := cJ0_indexOf_0f7a4) (maxL := 2) (ret := some .int) (by decide) rfl ?_
  intro p e s m args below meth c s₁ B hml hv
  obtain ⟨rfl, hZ⟩ := hv
  rw [lg_entry_eq]
  exact core_J0_indexOf_0f7a4 zb zv x1 B.exec B.bytes hml B.returns (atoms_spec (ws := wo_J0_indexOf_0f7a4) B.pre) (findClass_of_methodNamed B.named) B.notSynchronized (lv_entry [.ref zb, .int x1] (n := 2) (Nat.le_of_ble_eq_true rfl)) hZ h
theorem qd_J0_indexOf_0f7a4 : yJ0_indexOf_0f7a4.cls = RJ0 ∧ yJ0_indexOf_0f7a4.cls ≠ "java/lang/invoke/MethodHandle" ∧ yJ0_indexOf_0f7a4.cls ≠ "java/lang/invoke/VarHandle" ∧ (parseMethodDescriptor yJ0_indexOf_0f7a4.desc).map (fun d => d.parameters.length) = some 1 := by decide +kernel
abbrev wo_X1_commonDivisor : List Cond := .code yX1_commonDivisor cX1_commonDivisor 11 (some .long) :: wsL_law
set_option maxHeartbeats 4000000 in
set_option maxRecDepth 100000 in
theorem core_X1_commonDivisor {N : Nat} (x0 : Int64) (x2 : Int64) {p : Program} {l : Launch} {e : Env} {s : State} {m : MethodId} {args : Array Value} {below : List Frame} {meth : Method} {c : Code} {ls : Array Slot} (hx : p.tables.exec = Jvm.exec) (hb : c.code = cX1_commonDivisor) (hml : c.maxLocals = 11) (hr : meth.sig.returnType = some .long) (hts : ∀ w ∈ wo_X1_commonDivisor, w.before args s = true) (hown : s.vm.findClass RX1 = some m.cls) (hlocks : meth.locks = false) (hl : lv_has ls 11 [(0, .long x0), (2, .long x2)]) {o : Int64} (h : f_X1_commonDivisor N x0 x2 = some o) : gRl p l e wo_X1_commonDivisor 0 s m args below meth c o (F0 m 0 ls []) := by
  unfold f_X1_commonDivisor at h
  have J45 : ∀ (x4 : Int64) (ls : Array Slot) (hl : lv_has ls 11 [(4, .long x4)]) (h : f_X1_commonDivisor_45 N x4 = some o), gRl p l e wo_X1_commonDivisor 0 s m args below meth c o (F0 m 45 ls []) := by
    intro x4 ls hl h
    unfold f_X1_commonDivisor_45 at h
    refine lv_lload hx hb dX1_commonDivisor_45 (lv_at hl 0 rfl) ?_
    exact W.lret (v := x4) hx hb hr (fun t ht hW => ⟨_, rfl, Option.some.inj h, ht⟩) (fun q hq => by cases hq) dX1_commonDivisor_47
  have L9 : ∀ (n9 : Nat) (x4 : Int64) (x6 : Int64) (x8 : Int32) (ls : Array Slot) (hl : lv_has ls 11 [(4, .long x4), (6, .long x6), (8, .int x8)]) (h : f_X1_commonDivisor_9 N n9 x4 x6 x8 = some o), gRl p l e wo_X1_commonDivisor 0 s m args below meth c o (F0 m 9 ls []) := by
    intro n9
    induction n9 with
    | zero => intro x4 x6 x8 ls hl h; cases (show (none : Option (Int64)) = some o from h)
    | succ n9 ih9 =>
      intro x4 x6 x8 ls hl h
      rw [f_X1_commonDivisor_9] at h
      refine lv_lload hx hb dX1_commonDivisor_9 (lv_at hl 1 rfl) ?_
      refine lv_lconst (v := 0) hx hb dX1_commonDivisor_11 rfl ?_
      refine W.lcmp hx hb dX1_commonDivisor_12 ?_
      refine lv_if_eq (tgt := 45) hx hb dX1_commonDivisor_13 (by decide) (fun c1 => ?_) (fun c1 => ?_)
      · replace h := (if_pos c1).symm.trans h
        exact J45 x4 ls (lv_sub hl [0] rfl) h
      · replace h := (if_neg c1).symm.trans h
        refine lv_iload hx hb dX1_commonDivisor_16 (lv_at hl 2 rfl) ?_
        refine lv_sipush (v := 200) hx hb dX1_commonDivisor_18 (by decide) ?_
        refine lv_icmp_ge (tgt := 45) hx hb dX1_commonDivisor_21 (by decide) (fun c2 => ?_) (fun c2 => ?_)
        · replace h := (if_pos c2).symm.trans h
          exact J45 x4 ls (lv_sub hl [0] rfl) h
        · replace h := (if_neg c2).symm.trans h
          refine lv_lload hx hb dX1_commonDivisor_24 (lv_at hl 0 rfl) ?_
          refine lv_lload hx hb dX1_commonDivisor_26 (lv_at hl 1 rfl) ?_
          obtain ⟨g3, h⟩ := gNeL_some h
          refine lv_lrem hx hb dX1_commonDivisor_28 g3 ?_
          refine lv_lstore (lv' := [(9, .long (x4 - x4 / x6 * x6)), (4, .long x4), (6, .long x6), (8, .int x8)]) hx hb dX1_commonDivisor_29 hl (by decide) rfl (fun ls hl => ?_)
          refine lv_lload hx hb dX1_commonDivisor_31 (lv_at hl 2 rfl) ?_
          refine lv_lstore (lv' := [(4, .long x6), (9, .long (x4 - x4 / x6 * x6)), (6, .long x6), (8, .int x8)]) hx hb dX1_commonDivisor_33 hl (by decide) rfl (fun ls hl => ?_)
          refine lv_lload hx hb dX1_commonDivisor_35 (lv_at hl 1 rfl) ?_
          refine lv_lstore (lv' := [(6, .long (x4 - x4 / x6 * x6)), (4, .long x6), (9, .long (x4 - x4 / x6 * x6)), (8, .int x8)]) hx hb dX1_commonDivisor_37 hl (by decide) rfl (fun ls hl => ?_)
          refine lv_iinc (v := (x8 + 1)) (lv' := [(8, .int (x8 + 1)), (6, .long (x4 - x4 / x6 * x6)), (4, .long x6), (9, .long (x4 - x4 / x6 * x6))]) hx hb dX1_commonDivisor_39 hl (k := 3) rfl rfl (by decide) rfl (fun ls hl => ?_)
          refine lv_goto (tgt := 9) hx hb dX1_commonDivisor_42 (by decide) ?_
          exact ih9 x6 (x4 - x4 / x6 * x6) (x8 + 1) ls (lv_sub hl [2, 1, 0] rfl) h
  refine lv_lload_n hx hb dX1_commonDivisor_0 rfl (lv_at hl 0 rfl) ?_
  refine lv_lstore (lv' := [(4, .long x0), (0, .long x0), (2, .long x2)]) hx hb dX1_commonDivisor_1 hl (by decide) rfl (fun ls hl => ?_)
  refine lv_lload_n hx hb dX1_commonDivisor_3 rfl (lv_at hl 2 rfl) ?_
  refine lv_lstore (lv' := [(6, .long x2), (4, .long x0), (0, .long x0), (2, .long x2)]) hx hb dX1_commonDivisor_4 hl (by decide) rfl (fun ls hl => ?_)
  refine lv_iconst (v := 0) hx hb dX1_commonDivisor_6 (by decide) ?_
  refine lv_istore (lv' := [(8, .int 0), (6, .long x2), (4, .long x0), (0, .long x0), (2, .long x2)]) hx hb dX1_commonDivisor_7 hl (by decide) rfl (fun ls hl => ?_)
  exact L9 N x0 x2 0 ls (lv_sub hl [2, 1, 0] rfl) h
set_option maxHeartbeats 4000000 in
set_option maxRecDepth 100000 in
theorem c_X1_commonDivisor {N : Nat} (l : Launch) (x0 : Int64) (x2 : Int64) {o : Int64} (h : f_X1_commonDivisor N x0 x2 = some o) : mPl l yX1_commonDivisor wo_X1_commonDivisor 0 [.long x0, .long x2] o := by
  refine Met.ofW (cc := cX1_commonDivisor) (maxL := 11) (ret := some .long) (by decide) rfl ?_
  intro p e s m args below meth c s₁ B hml hv
  obtain ⟨rfl, -⟩ := hv
  rw [lg_entry_eq]
  exact core_X1_commonDivisor x0 x2 B.exec B.bytes hml B.returns (atoms_spec (ws := wo_X1_commonDivisor) B.pre) (findClass_of_methodNamed B.named) B.notSynchronized (lv_entry [.long x0, .long x2] (n := 11) (Nat.le_of_ble_eq_true rfl)) h
theorem qd_X1_commonDivisor : yX1_commonDivisor.cls ≠ "java/lang/invoke/MethodHandle" ∧ yX1_commonDivisor.cls ≠ "java/lang/invoke/VarHandle" ∧ (parseMethodDescriptor yX1_commonDivisor.desc).map (fun d => d.parameters.length) = some 2 := by decide +kernel
abbrev wo_X1_part : List Cond := .code yX1_part cX1_part 7 (some .long) :: wsL_law
set_option maxHeartbeats 4000000 in
set_option maxRecDepth 100000 in
theorem core_X1_part {N : Nat} (x0 : Int64) (x2 : Int64) (x4 : Int32) {p : Program} {l : Launch} {e : Env} {s : State} {m : MethodId} {args : Array Value} {below : List Frame} {meth : Method} {c : Code} {ls : Array Slot} (hx : p.tables.exec = Jvm.exec) (hb : c.code = cX1_part) (hml : c.maxLocals = 7) (hr : meth.sig.returnType = some .long) (hts : ∀ w ∈ wo_X1_part, w.before args s = true) (hown : s.vm.findClass RX1 = some m.cls) (hlocks : meth.locks = false) (hl : lv_has ls 7 [(0, .long x0), (2, .long x2), (4, .int x4)]) {o : Int64} (h : f_X1_part N x0 x2 x4 = some o) : gRl p l e wo_X1_part 1 s m args below meth c o (F0 m 0 ls []) := by
  unfold f_X1_part at h
  have J26 : ∀ (x5 : Int64) (s0 : Int64) (ls : Array Slot) (hl : lv_has ls 7 [(5, .long x5)]) (h : f_X1_part_26 N x5 s0 = some o), gRl p l e wo_X1_part 1 s m args below meth c o (F0 m 26 ls [.long s0]) := by
    intro x5 s0 ls hl h
    unfold f_X1_part_26 at h
    refine lv_lload hx hb dX1_part_26 (lv_at hl 0 rfl) ?_
    obtain ⟨g1, h⟩ := gNeL_some h
    refine lv_ldiv hx hb dX1_part_28 g1 ?_
    exact W.lret (v := (s0 / x5)) hx hb hr (fun t ht hW => ⟨_, rfl, Option.some.inj h, ht⟩) (fun q hq => by cases hq) dX1_part_29
  refine lv_lload_n hx hb dX1_part_0 rfl (lv_at hl 0 rfl) ?_
  refine lv_lload_n hx hb dX1_part_1 rfl (lv_at hl 1 rfl) ?_
  obtain ⟨o2, eq3, h⟩ := bnd_some h
  refine kPl (rest := []) ⟨hx, hb, hml, hown, hts⟩ (c_X1_commonDivisor l x0 x2 eq3) (va_cwS 2 hts (gAS wm_515 wm_516 wm_510 wm_517) rfl rfl rfl qd_X1_commonDivisor ⟨Nat.le_of_ble_eq_true rfl, Nat.le_of_ble_eq_true rfl⟩) rfl hl.1 rfl (Nat.le_of_ble_eq_true rfl) dX1_part_2 ⟨Nat.zero_le _, Nat.zero_le _⟩ ?_
  refine lv_lstore (lv' := [(5, .long o2), (0, .long x0), (2, .long x2), (4, .int x4)]) hx hb dX1_part_5 hl (by decide) rfl (fun ls hl => ?_)
  refine lv_lload hx hb dX1_part_7 (lv_at hl 0 rfl) ?_
  refine lv_lconst (v := 0) hx hb dX1_part_9 rfl ?_
  refine W.lcmp hx hb dX1_part_10 ?_
  refine lv_if_ne (tgt := 16) hx hb dX1_part_11 (by decide) (fun c4 => ?_) (fun c4 => ?_)
  · replace h := (if_neg c4).symm.trans h
    refine lv_iload hx hb dX1_part_16 (lv_at hl 3 rfl) ?_
    refine lv_if_ne (tgt := 25) hx hb dX1_part_18 (by decide) (fun c5 => ?_) (fun c5 => ?_)
    · replace h := (if_neg c5).symm.trans h
      refine lv_lload_n hx hb dX1_part_25 rfl (lv_at hl 2 rfl) ?_
      exact J26 o2 x2 ls (lv_sub hl [0] rfl) h
    · replace h := (if_pos c5).symm.trans h
      refine lv_lload_n hx hb dX1_part_21 rfl (lv_at hl 1 rfl) ?_
      refine lv_goto (tgt := 26) hx hb dX1_part_22 (by decide) ?_
      exact J26 o2 x0 ls (lv_sub hl [0] rfl) h
  · replace h := (if_pos c4).symm.trans h
    refine lv_lconst (v := 0) hx hb dX1_part_14 rfl ?_
    exact W.lret (v := 0) hx hb hr (fun t ht hW => ⟨_, rfl, Option.some.inj h, ht⟩) (fun q hq => by cases hq) dX1_part_15
set_option maxHeartbeats 4000000 in
set_option maxRecDepth 100000 in
theorem c_X1_part {N : Nat} (l : Launch) (x0 : Int64) (x2 : Int64) (x4 : Int32) {o : Int64} (h : f_X1_part N x0 x2 x4 = some o) : mPl l yX1_part wo_X1_part 1 [.long x0, .long x2, .int x4] o := by
  refine Met.ofW (cc := cX1_part) (maxL := 7) (ret := some .long) (by decide) rfl ?_
  intro p e s m args below meth c s₁ B hml hv
  obtain ⟨rfl, -⟩ := hv
  rw [lg_entry_eq]
  exact core_X1_part x0 x2 x4 B.exec B.bytes hml B.returns (atoms_spec (ws := wo_X1_part) B.pre) (findClass_of_methodNamed B.named) B.notSynchronized (lv_entry [.long x0, .long x2, .int x4] (n := 7) (Nat.le_of_ble_eq_true rfl)) h
theorem qd_X1_part : yX1_part.cls ≠ "java/lang/invoke/MethodHandle" ∧ yX1_part.cls ≠ "java/lang/invoke/VarHandle" ∧ (parseMethodDescriptor yX1_part.desc).map (fun d => d.parameters.length) = some 3 := by decide +kernel
abbrev wo_X1_power : List Cond := .code yX1_power cX1_power 6 (some .long) :: wsL_law
set_option maxHeartbeats 4000000 in
set_option maxRecDepth 100000 in
theorem core_X1_power {N : Nat} (x0 : Int64) (x2 : Int32) {p : Program} {l : Launch} {e : Env} {s : State} {m : MethodId} {args : Array Value} {below : List Frame} {meth : Method} {c : Code} {ls : Array Slot} (hx : p.tables.exec = Jvm.exec) (hb : c.code = cX1_power) (hml : c.maxLocals = 6) (hr : meth.sig.returnType = some .long) (hts : ∀ w ∈ wo_X1_power, w.before args s = true) (hown : s.vm.findClass RX1 = some m.cls) (hlocks : meth.locks = false) (hl : lv_has ls 6 [(0, .long x0), (2, .int x2)]) {o : Int64} (h : f_X1_power N x0 x2 = some o) : gRl p l e wo_X1_power 0 s m args below meth c o (F0 m 0 ls []) := by
  unfold f_X1_power at h
  have L5 : ∀ (n5 : Nat) (x0 : Int64) (x2 : Int32) (x3 : Int64) (x5 : Int32) (ls : Array Slot) (hl : lv_has ls 6 [(0, .long x0), (2, .int x2), (3, .long x3), (5, .int x5)]) (h : f_X1_power_5 N n5 x0 x2 x3 x5 = some o), gRl p l e wo_X1_power 0 s m args below meth c o (F0 m 5 ls []) := by
    intro n5
    induction n5 with
    | zero => intro x0 x2 x3 x5 ls hl h; cases (show (none : Option (Int64)) = some o from h)
    | succ n5 ih5 =>
      intro x0 x2 x3 x5 ls hl h
      rw [f_X1_power_5] at h
      refine lv_iload hx hb dX1_power_5 (lv_at hl 3 rfl) ?_
      refine lv_iload_n hx hb dX1_power_7 rfl (lv_at hl 1 rfl) ?_
      refine lv_icmp_ge (tgt := 21) hx hb dX1_power_8 (by decide) (fun c1 => ?_) (fun c1 => ?_)
      · replace h := (if_pos c1).symm.trans h
        refine lv_lload_n hx hb dX1_power_21 rfl (lv_at hl 2 rfl) ?_
        exact W.lret (v := x3) hx hb hr (fun t ht hW => ⟨_, rfl, Option.some.inj h, ht⟩) (fun q hq => by cases hq) dX1_power_22
      · replace h := (if_neg c1).symm.trans h
        refine lv_lload_n hx hb dX1_power_11 rfl (lv_at hl 2 rfl) ?_
        refine lv_lload_n hx hb dX1_power_12 rfl (lv_at hl 0 rfl) ?_
        refine lv_lmul hx hb dX1_power_13 ?_
        refine lv_lstore_n (lv' := [(3, .long (x3 * x0)), (0, .long x0), (2, .int x2), (5, .int x5)]) hx hb dX1_power_14 rfl hl (by decide) rfl (fun ls hl => ?_)
        refine lv_iinc (v := (x5 + 1)) (lv' := [(5, .int (x5 + 1)), (3, .long (x3 * x0)), (0, .long x0), (2, .int x2)]) hx hb dX1_power_15 hl (k := 3) rfl rfl (by decide) rfl (fun ls hl => ?_)
        refine lv_goto (tgt := 5) hx hb dX1_power_18 (by decide) ?_
        exact ih5 x0 x2 (x3 * x0) (x5 + 1) ls (lv_sub hl [2, 3, 1, 0] rfl) h
  refine lv_lconst (v := 1) hx hb dX1_power_0 rfl ?_
  refine lv_lstore_n (lv' := [(3, .long 1), (0, .long x0), (2, .int x2)]) hx hb dX1_power_1 rfl hl (by decide) rfl (fun ls hl => ?_)
  refine lv_iconst (v := 0) hx hb dX1_power_2 (by decide) ?_
  refine lv_istore (lv' := [(5, .int 0), (3, .long 1), (0, .long x0), (2, .int x2)]) hx hb dX1_power_3 hl (by decide) rfl (fun ls hl => ?_)
  exact L5 N x0 x2 1 0 ls (lv_sub hl [2, 3, 1, 0] rfl) h
set_option maxHeartbeats 4000000 in
set_option maxRecDepth 100000 in
theorem c_X1_power {N : Nat} (l : Launch) (x0 : Int64) (x2 : Int32) {o : Int64} (h : f_X1_power N x0 x2 = some o) : mPl l yX1_power wo_X1_power 0 [.long x0, .int x2] o := by
  refine Met.ofW (cc := cX1_power) (maxL := 6) (ret := some .long) (by decide) rfl ?_
  intro p e s m args below meth c s₁ B hml hv
  obtain ⟨rfl, -⟩ := hv
  rw [lg_entry_eq]
  exact core_X1_power x0 x2 B.exec B.bytes hml B.returns (atoms_spec (ws := wo_X1_power) B.pre) (findClass_of_methodNamed B.named) B.notSynchronized (lv_entry [.long x0, .int x2] (n := 6) (Nat.le_of_ble_eq_true rfl)) h
theorem qd_X1_power : yX1_power.cls ≠ "java/lang/invoke/MethodHandle" ∧ yX1_power.cls ≠ "java/lang/invoke/VarHandle" ∧ (parseMethodDescriptor yX1_power.desc).map (fun d => d.parameters.length) = some 2 := by decide +kernel
abbrev wo_X2_after : List Cond := .code yX2_after cX2_after 3 (some .int) :: wsL_law
set_option maxHeartbeats 4000000 in
set_option maxRecDepth 100000 in
theorem core_X2_after (x0 : Int32) {p : Program} {l : Launch} {e : Env} {s : State} {m : MethodId} {args : Array Value} {below : List Frame} {meth : Method} {c : Code} {ls : Array Slot} (hx : p.tables.exec = Jvm.exec) (hb : c.code = cX2_after) (hml : c.maxLocals = 3) (hr : meth.sig.returnType = some .int) (hts : ∀ w ∈ wo_X2_after, w.before args s = true) (hown : s.vm.findClass RX2 = some m.cls) (hlocks : meth.locks = false) (hl : lv_has ls 3 [(0, .int x0)]) {o : Int32} (h : f_X2_after x0 = some o) : gRi p l e wo_X2_after 0 s m args below meth c o (F0 m 0 ls []) := by
  unfold f_X2_after at h
  refine lv_iload_n hx hb dX2_after_0 rfl (lv_at hl 0 rfl) ?_
  refine lv_iload_n hx hb dX2_after_1 rfl (lv_at hl 0 rfl) ?_
  refine lv_ineg hx hb dX2_after_2 ?_
  refine lv_iand hx hb dX2_after_3 ?_
  refine lv_istore_n (lv' := [(1, .int (x0 &&& (-x0))), (0, .int x0)]) hx hb dX2_after_4 rfl hl (by decide) rfl (fun ls hl => ?_)
  refine lv_iload_n hx hb dX2_after_5 rfl (lv_at hl 0 rfl) ?_
  refine lv_if_ne (tgt := 11) hx hb dX2_after_6 (by decide) (fun c1 => ?_) (fun c1 => ?_)
  · replace h := (if_neg c1).symm.trans h
    refine lv_iload_n hx hb dX2_after_11 rfl (lv_at hl 1 rfl) ?_
    refine lv_iload_n hx hb dX2_after_12 rfl (lv_at hl 0 rfl) ?_
    refine lv_iadd hx hb dX2_after_13 ?_
    refine lv_istore_n (lv' := [(2, .int (x0 + (x0 &&& (-x0)))), (1, .int (x0 &&& (-x0))), (0, .int x0)]) hx hb dX2_after_14 rfl hl (by decide) rfl (fun ls hl => ?_)
    refine lv_iload_n hx hb dX2_after_15 rfl (lv_at hl 0 rfl) ?_
    refine lv_iload_n hx hb dX2_after_16 rfl (lv_at hl 2 rfl) ?_
    refine lv_iload_n hx hb dX2_after_17 rfl (lv_at hl 0 rfl) ?_
    refine lv_ixor hx hb dX2_after_18 ?_
    refine lv_iload_n hx hb dX2_after_19 rfl (lv_at hl 1 rfl) ?_
    obtain ⟨g2, h⟩ := gNe_some h
    refine lv_idiv hx hb dX2_after_20 g2 ?_
    refine lv_iconst (v := 2) hx hb dX2_after_21 (by decide) ?_
    refine lv_ishr hx hb dX2_after_22 ?_
    refine lv_ior hx hb dX2_after_23 ?_
    exact W.iret (v := ((x0 + (x0 &&& (-x0))) ||| (((x0 ^^^ (x0 + (x0 &&& (-x0)))) / (x0 &&& (-x0))) >>> ((2 : Int32) &&& 31)))) hx hb hr (fun t ht hW => ⟨_, rfl, Option.some.inj h, ht⟩) (fun q hq => by cases hq) dX2_after_24
  · replace h := (if_pos c1).symm.trans h
    refine lv_iload_n hx hb dX2_after_9 rfl (lv_at hl 1 rfl) ?_
    exact W.iret (v := x0) hx hb hr (fun t ht hW => ⟨_, rfl, Option.some.inj h, ht⟩) (fun q hq => by cases hq) dX2_after_10
set_option maxHeartbeats 4000000 in
set_option maxRecDepth 100000 in
theorem c_X2_after (l : Launch) (x0 : Int32) {o : Int32} (h : f_X2_after x0 = some o) : mPi l yX2_after wo_X2_after 0 [.int x0] o := by
  refine Met.ofW (cc := cX2_after) (maxL := 3) (ret := some .int) (by decide) rfl ?_
  intro p e s m args below meth c s₁ B hml hv
  obtain ⟨rfl, -⟩ := hv
  rw [lg_entry_eq]
  exact core_X2_after x0 B.exec B.bytes hml B.returns (atoms_spec (ws := wo_X2_after) B.pre) (findClass_of_methodNamed B.named) B.notSynchronized (lv_entry [.int x0] (n := 3) (Nat.le_of_ble_eq_true rfl)) h
theorem qd_X2_after : yX2_after.cls ≠ "java/lang/invoke/MethodHandle" ∧ yX2_after.cls ≠ "java/lang/invoke/VarHandle" ∧ (parseMethodDescriptor yX2_after.desc).map (fun d => d.parameters.length) = some 1 := by decide +kernel
abbrev wo_X2_behindHits : List Cond := .code yX2_behindHits cX2_behindHits 4 (some .int) :: wsL_law
set_option maxHeartbeats 4000000 in
set_option maxRecDepth 100000 in
theorem core_X2_behindHits {N : Nat} (x0 : Int32) (x1 : Int32) {p : Program} {l : Launch} {e : Env} {s : State} {m : MethodId} {args : Array Value} {below : List Frame} {meth : Method} {c : Code} {ls : Array Slot} (hx : p.tables.exec = Jvm.exec) (hb : c.code = cX2_behindHits) (hml : c.maxLocals = 4) (hr : meth.sig.returnType = some .int) (hts : ∀ w ∈ wo_X2_behindHits, w.before args s = true) (hown : s.vm.findClass RX2 = some m.cls) (hlocks : meth.locks = false) (hl : lv_has ls 4 [(0, .int x0), (1, .int x1)]) {o : Int32} (h : f_X2_behindHits N x0 x1 = some o) : gRi p l e wo_X2_behindHits 0 s m args below meth c o (F0 m 0 ls []) := by
  unfold f_X2_behindHits at h
  have L6 : ∀ (n6 : Nat) (x0 : Int32) (x1 : Int32) (x2 : Int32) (x3 : Int32) (ls : Array Slot) (hl : lv_has ls 4 [(0, .int x0), (1, .int x1), (2, .int x2), (3, .int x3)]) (h : f_X2_behindHits_6 N n6 x0 x1 x2 x3 = some o), gRi p l e wo_X2_behindHits 0 s m args below meth c o (F0 m 6 ls []) := by
    intro n6
    induction n6 with
    | zero => intro x0 x1 x2 x3 ls hl h; cases (show (none : Option (Int32)) = some o from h)
    | succ n6 ih6 =>
      intro x0 x1 x2 x3 ls hl h
      rw [f_X2_behindHits_6] at h
      refine lv_iload_n hx hb dX2_behindHits_6 rfl (lv_at hl 3 rfl) ?_
      refine lv_iload_n hx hb dX2_behindHits_7 rfl (lv_at hl 1 rfl) ?_
      refine lv_icmp_gt (tgt := 23) hx hb dX2_behindHits_8 (by decide) (fun c1 => ?_) (fun c1 => ?_)
      · replace h := (if_pos c1).symm.trans h
        refine lv_iload_n hx hb dX2_behindHits_23 rfl (lv_at hl 2 rfl) ?_
        exact W.iret (v := x2) hx hb hr (fun t ht hW => ⟨_, rfl, Option.some.inj h, ht⟩) (fun q hq => by cases hq) dX2_behindHits_24
      · replace h := (if_neg c1).symm.trans h
        refine lv_iload_n hx hb dX2_behindHits_11 rfl (lv_at hl 2 rfl) ?_
        refine lv_iload_n hx hb dX2_behindHits_12 rfl (lv_at hl 0 rfl) ?_
        refine lv_iload_n hx hb dX2_behindHits_13 rfl (lv_at hl 3 rfl) ?_
        refine lv_ishr hx hb dX2_behindHits_14 ?_
        refine lv_iand hx hb dX2_behindHits_15 ?_
        refine lv_istore_n (lv' := [(2, .int (x2 &&& (x0 >>> (x3 &&& 31)))), (0, .int x0), (1, .int x1), (3, .int x3)]) hx hb dX2_behindHits_16 rfl hl (by decide) rfl (fun ls hl => ?_)
        refine lv_iinc (v := (x3 + 1)) (lv' := [(3, .int (x3 + 1)), (2, .int (x2 &&& (x0 >>> (x3 &&& 31)))), (0, .int x0), (1, .int x1)]) hx hb dX2_behindHits_17 hl (k := 3) rfl rfl (by decide) rfl (fun ls hl => ?_)
        refine lv_goto (tgt := 6) hx hb dX2_behindHits_20 (by decide) ?_
        exact ih6 x0 x1 (x2 &&& (x0 >>> (x3 &&& 31))) (x3 + 1) ls (lv_sub hl [2, 3, 1, 0] rfl) h
  refine lv_iload_n hx hb dX2_behindHits_0 rfl (lv_at hl 0 rfl) ?_
  refine lv_iconst (v := 1) hx hb dX2_behindHits_1 (by decide) ?_
  refine lv_ishr hx hb dX2_behindHits_2 ?_
  refine lv_istore_n (lv' := [(2, .int (x0 >>> ((1 : Int32) &&& 31))), (0, .int x0), (1, .int x1)]) hx hb dX2_behindHits_3 rfl hl (by decide) rfl (fun ls hl => ?_)
  refine lv_iconst (v := 2) hx hb dX2_behindHits_4 (by decide) ?_
  refine lv_istore_n (lv' := [(3, .int 2), (2, .int (x0 >>> ((1 : Int32) &&& 31))), (0, .int x0), (1, .int x1)]) hx hb dX2_behindHits_5 rfl hl (by decide) rfl (fun ls hl => ?_)
  exact L6 N x0 x1 (x0 >>> ((1 : Int32) &&& 31)) 2 ls (lv_sub hl [2, 3, 1, 0] rfl) h
set_option maxHeartbeats 4000000 in
set_option maxRecDepth 100000 in
theorem c_X2_behindHits {N : Nat} (l : Launch) (x0 : Int32) (x1 : Int32) {o : Int32} (h : f_X2_behindHits N x0 x1 = some o) : mPi l yX2_behindHits wo_X2_behindHits 0 [.int x0, .int x1] o := by
  refine Met.ofW (cc := cX2_behindHits) (maxL := 4) (ret := some .int) (by decide) rfl ?_
  intro p e s m args below meth c s₁ B hml hv
  obtain ⟨rfl, -⟩ := hv
  rw [lg_entry_eq]
  exact core_X2_behindHits x0 x1 B.exec B.bytes hml B.returns (atoms_spec (ws := wo_X2_behindHits) B.pre) (findClass_of_methodNamed B.named) B.notSynchronized (lv_entry [.int x0, .int x1] (n := 4) (Nat.le_of_ble_eq_true rfl)) h
theorem qd_X2_behindHits : yX2_behindHits.cls ≠ "java/lang/invoke/MethodHandle" ∧ yX2_behindHits.cls ≠ "java/lang/invoke/VarHandle" ∧ (parseMethodDescriptor yX2_behindHits.desc).map (fun d => d.parameters.length) = some 2 := by decide +kernel
abbrev wo_X2_heat : List Cond := .code yX2_heat cX2_heat 3 (some .long) :: wsL_law
set_option maxHeartbeats 4000000 in
set_option maxRecDepth 100000 in
theorem core_X2_heat (x0 : Int32) (x1 : Int32) {p : Program} {l : Launch} {e : Env} {s : State} {m : MethodId} {args : Array Value} {below : List Frame} {meth : Method} {c : Code} {ls : Array Slot} (hx : p.tables.exec = Jvm.exec) (hb : c.code = cX2_heat) (hml : c.maxLocals = 3) (hr : meth.sig.returnType = some .long) (hts : ∀ w ∈ wo_X2_heat, w.before args s = true) (hown : s.vm.findClass RX2 = some m.cls) (hlocks : meth.locks = false) (hl : lv_has ls 3 [(0, .int x0), (1, .int x1)]) {o : Int64} (h : f_X2_heat x0 x1 = some o) : gRl p l e wo_X2_heat 1 s m args below meth c o (F0 m 0 ls []) := by
  have kc24 := hts _ (List.mem_cons_of_mem _ wm_660)
  unfold f_X2_heat at h
  refine lv_iload_n hx hb dX2_heat_0 rfl (lv_at hl 1 rfl) ?_
  obtain ⟨o1, eq2, h⟩ := bnd_some h
  refine kPi (rest := []) ⟨hx, hb, hml, hown, hts⟩ (c_J6_bitCount_0f7a4 l x1 eq2) (va_cwS 1 hts (gAS wm_596 wm_210 wm_211 wm_212) rfl rfl rfl qd_J6_bitCount_0f7a4 ⟨Nat.le_of_ble_eq_true rfl, Nat.le_of_ble_eq_true rfl⟩) rfl hl.1 rfl (Nat.le_of_ble_eq_true rfl) dX2_heat_1 ⟨Nat.zero_le _, Nat.zero_le _⟩ ?_
  refine lv_istore_n (lv' := [(2, .int o1), (0, .int x0), (1, .int x1)]) hx hb dX2_heat_4 rfl hl (by decide) rfl (fun ls hl => ?_)
  refine lv_iload_n hx hb dX2_heat_5 rfl (lv_at hl 0 rfl) ?_
  refine lv_if_ne (tgt := 13) hx hb dX2_heat_6 (by decide) (fun c3 => ?_) (fun c3 => ?_)
  · replace h := (if_neg c3).symm.trans h
    refine lv_iload_n hx hb dX2_heat_13 rfl (lv_at hl 2 rfl) ?_
    refine lv_iload_n hx hb dX2_heat_14 rfl (lv_at hl 1 rfl) ?_
    refine lv_iand hx hb dX2_heat_15 ?_
    obtain ⟨o4, eq5, h⟩ := bnd_some h
    refine kPi (rest := []) ⟨hx, hb, hml, hown, hts⟩ (c_J6_bitCount_0f7a4 l (x1 &&& x0) eq5) (va_cwS 1 hts (gAS wm_596 wm_210 wm_211 wm_212) rfl rfl rfl qd_J6_bitCount_0f7a4 ⟨Nat.le_of_ble_eq_true rfl, Nat.le_of_ble_eq_true rfl⟩) rfl hl.1 rfl (Nat.le_of_ble_eq_true rfl) dX2_heat_16 ⟨Nat.zero_le _, Nat.zero_le _⟩ ?_
    refine lv_i2l (v := o4.toInt64) hx hb dX2_heat_19 rfl ?_
    refine lv_ldc2 (v := 360360) hx hb hown kc24 dX2_heat_20 ?_
    refine lv_iload_n hx hb dX2_heat_23 rfl (lv_at hl 0 rfl) ?_
    refine lv_i2l (v := o1.toInt64) hx hb dX2_heat_24 rfl ?_
    obtain ⟨g6, h⟩ := gNeL_some h
    refine lv_ldiv hx hb dX2_heat_25 g6 ?_
    refine lv_lmul hx hb dX2_heat_26 ?_
    exact W.lret (v := (o4.toInt64 * (360360 / o1.toInt64))) hx hb hr (fun t ht hW => ⟨_, rfl, Option.some.inj h, ht⟩) (fun q hq => by cases hq) dX2_heat_27
  · replace h := (if_pos c3).symm.trans h
    refine lv_lconst (v := 0) hx hb dX2_heat_9 rfl ?_
    refine lv_goto (tgt := 27) hx hb dX2_heat_10 (by decide) ?_
    exact W.lret (v := 0) hx hb hr (fun t ht hW => ⟨_, rfl, Option.some.inj h, ht⟩) (fun q hq => by cases hq) dX2_heat_27
set_option maxHeartbeats 4000000 in
set_option maxRecDepth 100000 in
theorem c_X2_heat (l : Launch) (x0 : Int32) (x1 : Int32) {o : Int64} (h : f_X2_heat x0 x1 = some o) : mPl l yX2_heat wo_X2_heat 1 [.int x0, .int x1] o := by
  refine Met.ofW (cc := cX2_heat) (maxL := 3) (ret := some .long) (by decide) rfl ?_
  intro p e s m args below meth c s₁ B hml hv
  obtain ⟨rfl, -⟩ := hv
  rw [lg_entry_eq]
  exact core_X2_heat x0 x1 B.exec B.bytes hml B.returns (atoms_spec (ws := wo_X2_heat) B.pre) (findClass_of_methodNamed B.named) B.notSynchronized (lv_entry [.int x0, .int x1] (n := 3) (Nat.le_of_ble_eq_true rfl)) h
theorem qd_X2_heat : yX2_heat.cls ≠ "java/lang/invoke/MethodHandle" ∧ yX2_heat.cls ≠ "java/lang/invoke/VarHandle" ∧ (parseMethodDescriptor yX2_heat.desc).map (fun d => d.parameters.length) = some 2 := by decide +kernel
abbrev wo_X3_runs : List Cond := .code yX3_runs cX3_runs 3 (some .int) :: wsL_law
set_option maxHeartbeats 4000000 in
set_option maxRecDepth 100000 in
theorem core_X3_runs (x0 : Int32) (x1 : Int32) {p : Program} {l : Launch} {e : Env} {s : State} {m : MethodId} {args : Array Value} {below : List Frame} {meth : Method} {c : Code} {ls : Array Slot} (hx : p.tables.exec = Jvm.exec) (hb : c.code = cX3_runs) (hml : c.maxLocals = 3) (hr : meth.sig.returnType = some .int) (hts : ∀ w ∈ wo_X3_runs, w.before args s = true) (hown : s.vm.findClass RX3 = some m.cls) (hlocks : meth.locks = false) (hl : lv_has ls 3 [(0, .int x0), (1, .int x1)]) {o : Int32} (h : f_X3_runs x0 x1 = some o) : gRi p l e wo_X3_runs 1 s m args below meth c o (F0 m 0 ls []) := by
  unfold f_X3_runs at h
  refine lv_iload_n hx hb dX3_runs_0 rfl (lv_at hl 0 rfl) ?_
  refine lv_if_ne (tgt := 6) hx hb dX3_runs_1 (by decide) (fun c1 => ?_) (fun c1 => ?_)
  · replace h := (if_neg c1).symm.trans h
    refine lv_iload_n hx hb dX3_runs_6 rfl (lv_at hl 1 rfl) ?_
    refine lv_iload_n hx hb dX3_runs_7 rfl (lv_at hl 1 rfl) ?_
    refine lv_iconst (v := 1) hx hb dX3_runs_8 (by decide) ?_
    refine lv_ishr hx hb dX3_runs_9 ?_
    refine lv_ixor hx hb dX3_runs_10 ?_
    refine lv_iconst (v := 1) hx hb dX3_runs_11 (by decide) ?_
    refine lv_iload_n hx hb dX3_runs_12 rfl (lv_at hl 0 rfl) ?_
    refine lv_iconst (v := 1) hx hb dX3_runs_13 (by decide) ?_
    refine lv_isub hx hb dX3_runs_14 ?_
    refine lv_ishl hx hb dX3_runs_15 ?_
    refine lv_iconst (v := 1) hx hb dX3_runs_16 (by decide) ?_
    refine lv_isub hx hb dX3_runs_17 ?_
    refine lv_iand hx hb dX3_runs_18 ?_
    refine lv_istore_n (lv' := [(2, .int ((x1 ^^^ (x1 >>> ((1 : Int32) &&& 31))) &&& (((1 : Int32) <<< ((x0 - 1) &&& 31)) - 1))), (0, .int x0), (1, .int x1)]) hx hb dX3_runs_19 rfl hl (by decide) rfl (fun ls hl => ?_)
    refine lv_iconst (v := 1) hx hb dX3_runs_20 (by decide) ?_
    refine lv_iload_n hx hb dX3_runs_21 rfl (lv_at hl 0 rfl) ?_
    obtain ⟨o2, eq3, h⟩ := bnd_some h
    refine kPi (rest := [.int 1]) ⟨hx, hb, hml, hown, hts⟩ (c_J6_bitCount_0f7a4 l ((x1 ^^^ (x1 >>> ((1 : Int32) &&& 31))) &&& (((1 : Int32) <<< ((x0 - 1) &&& 31)) - 1)) eq3) (va_cwS 1 hts (gAS wm_209 wm_210 wm_211 wm_212) rfl rfl rfl qd_J6_bitCount_0f7a4 ⟨Nat.le_of_ble_eq_true rfl, Nat.le_of_ble_eq_true rfl⟩) rfl hl.1 rfl (Nat.le_of_ble_eq_true rfl) dX3_runs_22 ⟨Nat.zero_le _, Nat.zero_le _⟩ ?_
    refine lv_iadd hx hb dX3_runs_25 ?_
    exact W.iret (v := ((1 : Int32) + o2)) hx hb hr (fun t ht hW => ⟨_, rfl, Option.some.inj h, ht⟩) (fun q hq => by cases hq) dX3_runs_26
  · replace h := (if_pos c1).symm.trans h
    refine lv_iconst (v := 0) hx hb dX3_runs_4 (by decide) ?_
    exact W.iret (v := 0) hx hb hr (fun t ht hW => ⟨_, rfl, Option.some.inj h, ht⟩) (fun q hq => by cases hq) dX3_runs_5
set_option maxHeartbeats 4000000 in
set_option maxRecDepth 100000 in
theorem c_X3_runs (l : Launch) (x0 : Int32) (x1 : Int32) {o : Int32} (h : f_X3_runs x0 x1 = some o) : mPi l yX3_runs wo_X3_runs 1 [.int x0, .int x1] o := by
  refine Met.ofW (cc := cX3_runs) (maxL := 3) (ret := some .int) (by decide) rfl ?_
  intro p e s m args below meth c s₁ B hml hv
  obtain ⟨rfl, -⟩ := hv
  rw [lg_entry_eq]
  exact core_X3_runs x0 x1 B.exec B.bytes hml B.returns (atoms_spec (ws := wo_X3_runs) B.pre) (findClass_of_methodNamed B.named) B.notSynchronized (lv_entry [.int x0, .int x1] (n := 3) (Nat.le_of_ble_eq_true rfl)) h
theorem qd_X3_runs : yX3_runs.cls ≠ "java/lang/invoke/MethodHandle" ∧ yX3_runs.cls ≠ "java/lang/invoke/VarHandle" ∧ (parseMethodDescriptor yX3_runs.desc).map (fun d => d.parameters.length) = some 2 := by decide +kernel
abbrev wo_X3_longestRun : List Cond := .code yX3_longestRun cX3_longestRun 3 (some .int) :: wsL_law
set_option maxHeartbeats 4000000 in
set_option maxRecDepth 100000 in
theorem core_X3_longestRun {N : Nat} (x0 : Int32) {p : Program} {l : Launch} {e : Env} {s : State} {m : MethodId} {args : Array Value} {below : List Frame} {meth : Method} {c : Code} {ls : Array Slot} (hx : p.tables.exec = Jvm.exec) (hb : c.code = cX3_longestRun) (hml : c.maxLocals = 3) (hr : meth.sig.returnType = some .int) (hts : ∀ w ∈ wo_X3_longestRun, w.before args s = true) (hown : s.vm.findClass RX3 = some m.cls) (hlocks : meth.locks = false) (hl : lv_has ls 3 [(0, .int x0)]) {o : Int32} (h : f_X3_longestRun N x0 = some o) : gRi p l e wo_X3_longestRun 0 s m args below meth c o (F0 m 0 ls []) := by
  unfold f_X3_longestRun at h
  have J26 : ∀ (x2 : Int32) (ls : Array Slot) (hl : lv_has ls 3 [(2, .int x2)]) (h : f_X3_longestRun_26 N x2 = some o), gRi p l e wo_X3_longestRun 0 s m args below meth c o (F0 m 26 ls []) := by
    intro x2 ls hl h
    unfold f_X3_longestRun_26 at h
    refine lv_iload_n hx hb dX3_longestRun_26 rfl (lv_at hl 0 rfl) ?_
    exact W.iret (v := x2) hx hb hr (fun t ht hW => ⟨_, rfl, Option.some.inj h, ht⟩) (fun q hq => by cases hq) dX3_longestRun_27
  have L4 : ∀ (n4 : Nat) (x1 : Int32) (x2 : Int32) (ls : Array Slot) (hl : lv_has ls 3 [(1, .int x1), (2, .int x2)]) (h : f_X3_longestRun_4 N n4 x1 x2 = some o), gRi p l e wo_X3_longestRun 0 s m args below meth c o (F0 m 4 ls []) := by
    intro n4
    induction n4 with
    | zero => intro x1 x2 ls hl h; cases (show (none : Option (Int32)) = some o from h)
    | succ n4 ih4 =>
      intro x1 x2 ls hl h
      rw [f_X3_longestRun_4] at h
      refine lv_iload_n hx hb dX3_longestRun_4 rfl (lv_at hl 0 rfl) ?_
      refine lv_if_eq (tgt := 26) hx hb dX3_longestRun_5 (by decide) (fun c1 => ?_) (fun c1 => ?_)
      · replace h := (if_pos c1).symm.trans h
        exact J26 x2 ls (lv_sub hl [1] rfl) h
      · replace h := (if_neg c1).symm.trans h
        refine lv_iload_n hx hb dX3_longestRun_8 rfl (lv_at hl 1 rfl) ?_
        refine lv_bipush (v := 15) hx hb dX3_longestRun_9 (by decide) ?_
        refine lv_icmp_ge (tgt := 26) hx hb dX3_longestRun_11 (by decide) (fun c2 => ?_) (fun c2 => ?_)
        · replace h := (if_pos c2).symm.trans h
          exact J26 x2 ls (lv_sub hl [1] rfl) h
        · replace h := (if_neg c2).symm.trans h
          refine lv_iload_n hx hb dX3_longestRun_14 rfl (lv_at hl 0 rfl) ?_
          refine lv_iload_n hx hb dX3_longestRun_15 rfl (lv_at hl 0 rfl) ?_
          refine lv_iconst (v := 1) hx hb dX3_longestRun_16 (by decide) ?_
          refine lv_ishr hx hb dX3_longestRun_17 ?_
          refine lv_iand hx hb dX3_longestRun_18 ?_
          refine lv_istore_n (lv' := [(1, .int (x1 &&& (x1 >>> ((1 : Int32) &&& 31)))), (2, .int x2)]) hx hb dX3_longestRun_19 rfl hl (by decide) rfl (fun ls hl => ?_)
          refine lv_iinc (v := (x2 + 1)) (lv' := [(2, .int (x2 + 1)), (1, .int (x1 &&& (x1 >>> ((1 : Int32) &&& 31))))]) hx hb dX3_longestRun_20 hl (k := 1) rfl rfl (by decide) rfl (fun ls hl => ?_)
          refine lv_goto (tgt := 4) hx hb dX3_longestRun_23 (by decide) ?_
          exact ih4 (x1 &&& (x1 >>> ((1 : Int32) &&& 31))) (x2 + 1) ls (lv_sub hl [1, 0] rfl) h
  refine lv_iload_n hx hb dX3_longestRun_0 rfl (lv_at hl 0 rfl) ?_
  refine lv_istore_n (lv' := [(1, .int x0), (0, .int x0)]) hx hb dX3_longestRun_1 rfl hl (by decide) rfl (fun ls hl => ?_)
  refine lv_iconst (v := 0) hx hb dX3_longestRun_2 (by decide) ?_
  refine lv_istore_n (lv' := [(2, .int 0), (1, .int x0), (0, .int x0)]) hx hb dX3_longestRun_3 rfl hl (by decide) rfl (fun ls hl => ?_)
  exact L4 N x0 0 ls (lv_sub hl [1, 0] rfl) h
set_option maxHeartbeats 4000000 in
set_option maxRecDepth 100000 in
theorem c_X3_longestRun {N : Nat} (l : Launch) (x0 : Int32) {o : Int32} (h : f_X3_longestRun N x0 = some o) : mPi l yX3_longestRun wo_X3_longestRun 0 [.int x0] o := by
  refine Met.ofW (cc := cX3_longestRun) (maxL := 3) (ret := some .int) (by decide) rfl ?_
  intro p e s m args below meth c s₁ B hml hv
  obtain ⟨rfl, -⟩ := hv
  rw [lg_entry_eq]
  exact core_X3_longestRun x0 B.exec B.bytes hml B.returns (atoms_spec (ws := wo_X3_longestRun) B.pre) (findClass_of_methodNamed B.named) B.notSynchronized (lv_entry [.int x0] (n := 3) (Nat.le_of_ble_eq_true rfl)) h
theorem qd_X3_longestRun : yX3_longestRun.cls ≠ "java/lang/invoke/MethodHandle" ∧ yX3_longestRun.cls ≠ "java/lang/invoke/VarHandle" ∧ (parseMethodDescriptor yX3_longestRun.desc).map (fun d => d.parameters.length) = some 1 := by decide +kernel
abbrev wo_X3_firstHit : List Cond := .code yX3_firstHit cX3_firstHit 3 (some .int) :: wsL_law
set_option maxHeartbeats 4000000 in
set_option maxRecDepth 100000 in
theorem core_X3_firstHit {N : Nat} (x0 : Int32) (x1 : Int32) {p : Program} {l : Launch} {e : Env} {s : State} {m : MethodId} {args : Array Value} {below : List Frame} {meth : Method} {c : Code} {ls : Array Slot} (hx : p.tables.exec = Jvm.exec) (hb : c.code = cX3_firstHit) (hml : c.maxLocals = 3) (hr : meth.sig.returnType = some .int) (hts : ∀ w ∈ wo_X3_firstHit, w.before args s = true) (hown : s.vm.findClass RX3 = some m.cls) (hlocks : meth.locks = false) (hl : lv_has ls 3 [(0, .int x0), (1, .int x1)]) {o : Int32} (h : f_X3_firstHit N x0 x1 = some o) : gRi p l e wo_X3_firstHit 0 s m args below meth c o (F0 m 0 ls []) := by
  unfold f_X3_firstHit at h
  have L2 : ∀ (n2 : Nat) (x0 : Int32) (x1 : Int32) (x2 : Int32) (ls : Array Slot) (hl : lv_has ls 3 [(0, .int x0), (1, .int x1), (2, .int x2)]) (h : f_X3_firstHit_2 N n2 x0 x1 x2 = some o), gRi p l e wo_X3_firstHit 0 s m args below meth c o (F0 m 2 ls []) := by
    intro n2
    induction n2 with
    | zero => intro x0 x1 x2 ls hl h; cases (show (none : Option (Int32)) = some o from h)
    | succ n2 ih2 =>
      intro x0 x1 x2 ls hl h
      rw [f_X3_firstHit_2] at h
      refine lv_iload_n hx hb dX3_firstHit_2 rfl (lv_at hl 2 rfl) ?_
      refine lv_iload_n hx hb dX3_firstHit_3 rfl (lv_at hl 0 rfl) ?_
      refine lv_icmp_ge (tgt := 28) hx hb dX3_firstHit_4 (by decide) (fun c1 => ?_) (fun c1 => ?_)
      · replace h := (if_pos c1).symm.trans h
        refine lv_bipush (v := 15) hx hb dX3_firstHit_28 (by decide) ?_
        exact W.iret (v := 15) hx hb hr (fun t ht hW => ⟨_, rfl, Option.some.inj h, ht⟩) (fun q hq => by cases hq) dX3_firstHit_30
      · replace h := (if_neg c1).symm.trans h
        refine lv_iload_n hx hb dX3_firstHit_7 rfl (lv_at hl 1 rfl) ?_
        refine lv_iload_n hx hb dX3_firstHit_8 rfl (lv_at hl 0 rfl) ?_
        refine lv_iconst (v := 1) hx hb dX3_firstHit_9 (by decide) ?_
        refine lv_isub hx hb dX3_firstHit_10 ?_
        refine lv_iload_n hx hb dX3_firstHit_11 rfl (lv_at hl 2 rfl) ?_
        refine lv_isub hx hb dX3_firstHit_12 ?_
        refine lv_ishr hx hb dX3_firstHit_13 ?_
        refine lv_iconst (v := 1) hx hb dX3_firstHit_14 (by decide) ?_
        refine lv_iand hx hb dX3_firstHit_15 ?_
        refine lv_iconst (v := 1) hx hb dX3_firstHit_16 (by decide) ?_
        refine lv_icmp_ne (tgt := 22) hx hb dX3_firstHit_17 (by decide) (fun c2 => ?_) (fun c2 => ?_)
        · replace h := (if_neg c2).symm.trans h
          refine lv_iinc (v := (x2 + 1)) (lv' := [(2, .int (x2 + 1)), (0, .int x0), (1, .int x1)]) hx hb dX3_firstHit_22 hl (k := 2) rfl rfl (by decide) rfl (fun ls hl => ?_)
          refine lv_goto (tgt := 2) hx hb dX3_firstHit_25 (by decide) ?_
          exact ih2 x0 x1 (x2 + 1) ls (lv_sub hl [1, 2, 0] rfl) h
        · replace h := (if_pos c2).symm.trans h
          refine lv_iload_n hx hb dX3_firstHit_20 rfl (lv_at hl 2 rfl) ?_
          exact W.iret (v := x2) hx hb hr (fun t ht hW => ⟨_, rfl, Option.some.inj h, ht⟩) (fun q hq => by cases hq) dX3_firstHit_21
  refine lv_iconst (v := 0) hx hb dX3_firstHit_0 (by decide) ?_
  refine lv_istore_n (lv' := [(2, .int 0), (0, .int x0), (1, .int x1)]) hx hb dX3_firstHit_1 rfl hl (by decide) rfl (fun ls hl => ?_)
  exact L2 N x0 x1 0 ls (lv_sub hl [1, 2, 0] rfl) h
set_option maxHeartbeats 4000000 in
set_option maxRecDepth 100000 in
theorem c_X3_firstHit {N : Nat} (l : Launch) (x0 : Int32) (x1 : Int32) {o : Int32} (h : f_X3_firstHit N x0 x1 = some o) : mPi l yX3_firstHit wo_X3_firstHit 0 [.int x0, .int x1] o := by
  refine Met.ofW (cc := cX3_firstHit) (maxL := 3) (ret := some .int) (by decide) rfl ?_
  intro p e s m args below meth c s₁ B hml hv
  obtain ⟨rfl, -⟩ := hv
  rw [lg_entry_eq]
  exact core_X3_firstHit x0 x1 B.exec B.bytes hml B.returns (atoms_spec (ws := wo_X3_firstHit) B.pre) (findClass_of_methodNamed B.named) B.notSynchronized (lv_entry [.int x0, .int x1] (n := 3) (Nat.le_of_ble_eq_true rfl)) h
theorem qd_X3_firstHit : yX3_firstHit.cls ≠ "java/lang/invoke/MethodHandle" ∧ yX3_firstHit.cls ≠ "java/lang/invoke/VarHandle" ∧ (parseMethodDescriptor yX3_firstHit.desc).map (fun d => d.parameters.length) = some 2 := by decide +kernel
