abbrev wo_J6_bitCount_0f7a4 : List Cond := .code yJ6_bitCount_0f7a4 cJ6_bitCount_0f7a4 1 (some .int) :: wsL_law
set_option maxHeartbeats 4000000 in
set_option maxRecDepth 100000 in
theorem core_J6_bitCount_0f7a4 (x0 : Int32) {p : Program} {l : Launch} {e : Env} {s : State} {m : MethodId} {args : Array Value} {below : List Frame} {meth : Method} {c : Code} {ls : Array Slot} (hx : p.tables.exec = Jvm.exec) (hb : c.code = cJ6_bitCount_0f7a4) (hml : c.maxLocals = 1) (hr : meth.sig.returnType = some .int) (hts : ∀ w ∈ wo_J6_bitCount_0f7a4, w.before args s = true) (hown : s.vm.findClass RJ6 = some m.cls) (hlocks : meth.locks = false) (hl : lv_has ls 1 [(0, .int x0)]) {o : Int32} (h : f_J6_bitCount_0f7a4 x0 = some o) : gRi p l e wo_J6_bitCount_0f7a4 0 s m args below meth c o (F0 m 0 ls []) := by
  have kc265 := hts _ (List.mem_cons_of_mem _ wm_213)
  have kc266 := hts _ (List.mem_cons_of_mem _ wm_214)
  have kc267 := hts _ (List.mem_cons_of_mem _ wm_215)
  unfold f_J6_bitCount_0f7a4 at h
  refine lv_iload_n hx hb dJ6_bitCount_0f7a4_0 rfl (lv_at hl 0 rfl) ?_
  refine lv_iload_n hx hb dJ6_bitCount_0f7a4_1 rfl (lv_at hl 0 rfl) ?_
  refine lv_iconst (v := 1) hx hb dJ6_bitCount_0f7a4_2 (by decide) ?_
  refine lv_iushr (v := (x0.toUInt32 >>> ((1 : Int32).toUInt32 &&& Int32.toUInt32 31)).toInt32) hx hb dJ6_bitCount_0f7a4_3 rfl ?_
  refine lv_ldcw (v := 1431655765) hx hb hown kc265 dJ6_bitCount_0f7a4_4 ?_
  refine lv_iand hx hb dJ6_bitCount_0f7a4_7 ?_
  refine lv_isub hx hb dJ6_bitCount_0f7a4_8 ?_
  refine lv_istore_n (lv' := [(0, .int (x0 - ((x0.toUInt32 >>> ((1 : Int32).toUInt32 &&& Int32.toUInt32 31)).toInt32 &&& 1431655765)))]) hx hb dJ6_bitCount_0f7a4_9 rfl hl (by decide) rfl (fun ls hl => ?_)
  refine lv_iload_n hx hb dJ6_bitCount_0f7a4_10 rfl (lv_at hl 0 rfl) ?_
  refine lv_ldcw (v := 858993459) hx hb hown kc266 dJ6_bitCount_0f7a4_11 ?_
  refine lv_iand hx hb dJ6_bitCount_0f7a4_14 ?_
  refine lv_iload_n hx hb dJ6_bitCount_0f7a4_15 rfl (lv_at hl 0 rfl) ?_
  refine lv_iconst (v := 2) hx hb dJ6_bitCount_0f7a4_16 (by decide) ?_
  refine lv_iushr (v := ((x0 - ((x0.toUInt32 >>> ((1 : Int32).toUInt32 &&& Int32.toUInt32 31)).toInt32 &&& 1431655765)).toUInt32 >>> ((2 : Int32).toUInt32 &&& Int32.toUInt32 31)).toInt32) hx hb dJ6_bitCount_0f7a4_17 rfl ?_
  refine lv_ldcw (v := 858993459) hx hb hown kc266 dJ6_bitCount_0f7a4_18 ?_
  refine lv_iand hx hb dJ6_bitCount_0f7a4_21 ?_
  refine lv_iadd hx hb dJ6_bitCount_0f7a4_22 ?_
  refine lv_istore_n (lv' := [(0, .int (((x0 - ((x0.toUInt32 >>> ((1 : Int32).toUInt32 &&& Int32.toUInt32 31)).toInt32 &&& 1431655765)) &&& 858993459) + (((x0 - ((x0.toUInt32 >>> ((1 : Int32).toUInt32 &&& Int32.toUInt32 31)).toInt32 &&& 1431655765)).toUInt32 >>> ((2 : Int32).toUInt32 &&& Int32.toUInt32 31)).toInt32 &&& 858993459)))]) hx hb dJ6_bitCount_0f7a4_23 rfl hl (by decide) rfl (fun ls hl => ?_)
  refine lv_iload_n hx hb dJ6_bitCount_0f7a4_24 rfl (lv_at hl 0 rfl) ?_
  refine lv_iload_n hx hb dJ6_bitCount_0f7a4_25 rfl (lv_at hl 0 rfl) ?_
  refine lv_iconst (v := 4) hx hb dJ6_bitCount_0f7a4_26 (by decide) ?_
  refine lv_iushr (v := ((((x0 - ((x0.toUInt32 >>> ((1 : Int32).toUInt32 &&& Int32.toUInt32 31)).toInt32 &&& 1431655765)) &&& 858993459) + (((x0 - ((x0.toUInt32 >>> ((1 : Int32).toUInt32 &&& Int32.toUInt32 31)).toInt32 &&& 1431655765)).toUInt32 >>> ((2 : Int32).toUInt32 &&& Int32.toUInt32 31)).toInt32 &&& 858993459)).toUInt32 >>> ((4 : Int32).toUInt32 &&& Int32.toUInt32 31)).toInt32) hx hb dJ6_bitCount_0f7a4_27 rfl ?_
  refine lv_iadd hx hb dJ6_bitCount_0f7a4_28 ?_
  refine lv_ldcw (v := 252645135) hx hb hown kc267 dJ6_bitCount_0f7a4_29 ?_
  refine lv_iand hx hb dJ6_bitCount_0f7a4_32 ?_
  refine lv_istore_n (lv' := [(0, .int (((((x0 - ((x0.toUInt32 >>> ((1 : Int32).toUInt32 &&& Int32.toUInt32 31)).toInt32 &&& 1431655765)) &&& 858993459) + (((x0 - ((x0.toUInt32 >>> ((1 : Int32).toUInt32 &&& Int32.toUInt32 31)).toInt32 &&& 1431655765)).toUInt32 >>> ((2 : Int32).toUInt32 &&& Int32.toUInt32 31)).toInt32 &&& 858993459)) + ((((x0 - ((x0.toUInt32 >>> ((1 : Int32).toUInt32 &&& Int32.toUInt32 31)).toInt32 &&& 1431655765)) &&& 858993459) + (((x0 - ((x0.toUInt32 >>> ((1 : Int32).toUInt32 &&& Int32.toUInt32 31)).toInt32 &&& 1431655765)).toUInt32 >>> ((2 : Int32).toUInt32 &&& Int32.toUInt32 31)).toInt32 &&& 858993459)).toUInt32 >>> ((4 : Int32).toUInt32 &&& Int32.toUInt32 31)).toInt32) &&& 252645135))]) hx hb dJ6_bitCount_0f7a4_33 rfl hl (by decide) rfl (fun ls hl => ?_)
  refine lv_iload_n hx hb dJ6_bitCount_0f7a4_34 rfl (lv_at hl 0 rfl) ?_
  refine lv_iload_n hx hb dJ6_bitCount_0f7a4_35 rfl (lv_at hl 0 rfl) ?_
  refine lv_bipush (v := 8) hx hb dJ6_bitCount_0f7a4_36 (by decide) ?_
  refine lv_iushr (v := ((((((x0 - ((x0.toUInt32 >>> ((1 : Int32).toUInt32 &&& Int32.toUInt32 31)).toInt32 &&& 1431655765)) &&& 858993459) + (((x0 - ((x0.toUInt32 >>> ((1 : Int32).toUInt32 &&& Int32.toUInt32 31)).toInt32 &&& 1431655765)).toUInt32 >>> ((2 : Int32).toUInt32 &&& Int32.toUInt32 31)).toInt32 &&& 858993459)) + ((((x0 - ((x0.toUInt32 >>> ((1 : Int32).toUInt32 &&& Int32.toUInt32 31)).toInt32 &&& 1431655765)) &&& 858993459) + (((x0 - ((x0.toUInt32 >>> ((1 : Int32).toUInt32 &&& Int32.toUInt32 31)).toInt32 &&& 1431655765)).toUInt32 >>> ((2 : Int32).toUInt32 &&& Int32.toUInt32 31)).toInt32 &&& 858993459)).toUInt32 >>> ((4 : Int32).toUInt32 &&& Int32.toUInt32 31)).toInt32) &&& 252645135).toUInt32 >>> ((8 : Int32).toUInt32 &&& Int32.toUInt32 31)).toInt32) hx hb dJ6_bitCount_0f7a4_38 rfl ?_
  refine lv_iadd hx hb dJ6_bitCount_0f7a4_39 ?_
  refine lv_istore_n (lv' := [(0, .int ((((((x0 - ((x0.toUInt32 >>> ((1 : Int32).toUInt32 &&& Int32.toUInt32 31)).toInt32 &&& 1431655765)) &&& 858993459) + (((x0 - ((x0.toUInt32 >>> ((1 : Int32).toUInt32 &&& Int32.toUInt32 31)).toInt32 &&& 1431655765)).toUInt32 >>> ((2 : Int32).toUInt32 &&& Int32.toUInt32 31)).toInt32 &&& 858993459)) + ((((x0 - ((x0.toUInt32 >>> ((1 : Int32).toUInt32 &&& Int32.toUInt32 31)).toInt32 &&& 1431655765)) &&& 858993459) + (((x0 - ((x0.toUInt32 >>> ((1 : Int32).toUInt32 &&& Int32.toUInt32 31)).toInt32 &&& 1431655765)).toUInt32 >>> ((2 : Int32).toUInt32 &&& Int32.toUInt32 31)).toInt32 &&& 858993459)).toUInt32 >>> ((4 : Int32).toUInt32 &&& Int32.toUInt32 31)).toInt32) &&& 252645135) + ((((((x0 - ((x0.toUInt32 >>> ((1 : Int32).toUInt32 &&& Int32.toUInt32 31)).toInt32 &&& 1431655765)) &&& 858993459) + (((x0 - ((x0.toUInt32 >>> ((1 : Int32).toUInt32 &&& Int32.toUInt32 31)).toInt32 &&& 1431655765)).toUInt32 >>> ((2 : Int32).toUInt32 &&& Int32.toUInt32 31)).toInt32 &&& 858993459)) + ((((x0 - ((x0.toUInt32 >>> ((1 : Int32).toUInt32 &&& Int32.toUInt32 31)).toInt32 &&& 1431655765)) &&& 858993459) + (((x0 - ((x0.toUInt32 >>> ((1 : Int32).toUInt32 &&& Int32.toUInt32 31)).toInt32 &&& 1431655765)).toUInt32 >>> ((2 : Int32).toUInt32 &&& Int32.toUInt32 31)).toInt32 &&& 858993459)).toUInt32 >>> ((4 : Int32).toUInt32 &&& Int32.toUInt32 31)).toInt32) &&& 252645135).toUInt32 >>> ((8 : Int32).toUInt32 &&& Int32.toUInt32 31)).toInt32))]) hx hb dJ6_bitCount_0f7a4_40 rfl hl (by decide) rfl (fun ls hl => ?_)
  refine lv_iload_n hx hb dJ6_bitCount_0f7a4_41 rfl (lv_at hl 0 rfl) ?_
  refine lv_iload_n hx hb dJ6_bitCount_0f7a4_42 rfl (lv_at hl 0 rfl) ?_
  refine lv_bipush (v := 16) hx hb dJ6_bitCount_0f7a4_43 (by decide) ?_
  refine lv_iushr (v := (((((((x0 - ((x0.toUInt32 >>> ((1 : Int32).toUInt32 &&& Int32.toUInt32 31)).toInt32 &&& 1431655765)) &&& 858993459) + (((x0 - ((x0.toUInt32 >>> ((1 : Int32).toUInt32 &&& Int32.toUInt32 31)).toInt32 &&& 1431655765)).toUInt32 >>> ((2 : Int32).toUInt32 &&& Int32.toUInt32 31)).toInt32 &&& 858993459)) + ((((x0 - ((x0.toUInt32 >>> ((1 : Int32).toUInt32 &&& Int32.toUInt32 31)).toInt32 &&& 1431655765)) &&& 858993459) + (((x0 - ((x0.toUInt32 >>> ((1 : Int32).toUInt32 &&& Int32.toUInt32 31)).toInt32 &&& 1431655765)).toUInt32 >>> ((2 : Int32).toUInt32 &&& Int32.toUInt32 31)).toInt32 &&& 858993459)).toUInt32 >>> ((4 : Int32).toUInt32 &&& Int32.toUInt32 31)).toInt32) &&& 252645135) + ((((((x0 - ((x0.toUInt32 >>> ((1 : Int32).toUInt32 &&& Int32.toUInt32 31)).toInt32 &&& 1431655765)) &&& 858993459) + (((x0 - ((x0.toUInt32 >>> ((1 : Int32).toUInt32 &&& Int32.toUInt32 31)).toInt32 &&& 1431655765)).toUInt32 >>> ((2 : Int32).toUInt32 &&& Int32.toUInt32 31)).toInt32 &&& 858993459)) + ((((x0 - ((x0.toUInt32 >>> ((1 : Int32).toUInt32 &&& Int32.toUInt32 31)).toInt32 &&& 1431655765)) &&& 858993459) + (((x0 - ((x0.toUInt32 >>> ((1 : Int32).toUInt32 &&& Int32.toUInt32 31)).toInt32 &&& 1431655765)).toUInt32 >>> ((2 : Int32).toUInt32 &&& Int32.toUInt32 31)).toInt32 &&& 858993459)).toUInt32 >>> ((4 : Int32).toUInt32 &&& Int32.toUInt32 31)).toInt32) &&& 252645135).toUInt32 >>> ((8 : Int32).toUInt32 &&& Int32.toUInt32 31)).toInt32).toUInt32 >>> ((16 : Int32).toUInt32 &&& Int32.toUInt32 31)).toInt32) hx hb dJ6_bitCount_0f7a4_45 rfl ?_
  refine lv_iadd hx hb dJ6_bitCount_0f7a4_46 ?_
  refine lv_istore_n (lv' := [(0, .int (((((((x0 - ((x0.toUInt32 >>> ((1 : Int32).toUInt32 &&& Int32.toUInt32 31)).toInt32 &&& 1431655765)) &&& 858993459) + (((x0 - ((x0.toUInt32 >>> ((1 : Int32).toUInt32 &&& Int32.toUInt32 31)).toInt32 &&& 1431655765)).toUInt32 >>> ((2 : Int32).toUInt32 &&& Int32.toUInt32 31)).toInt32 &&& 858993459)) + ((((x0 - ((x0.toUInt32 >>> ((1 : Int32).toUInt32 &&& Int32.toUInt32 31)).toInt32 &&& 1431655765)) &&& 858993459) + (((x0 - ((x0.toUInt32 >>> ((1 : Int32).toUInt32 &&& Int32.toUInt32 31)).toInt32 &&& 1431655765)).toUInt32 >>> ((2 : Int32).toUInt32 &&& Int32.toUInt32 31)).toInt32 &&& 858993459)).toUInt32 >>> ((4 : Int32).toUInt32 &&& Int32.toUInt32 31)).toInt32) &&& 252645135) + ((((((x0 - ((x0.toUInt32 >>> ((1 : Int32).toUInt32 &&& Int32.toUInt32 31)).toInt32 &&& 1431655765)) &&& 858993459) + (((x0 - ((x0.toUInt32 >>> ((1 : Int32).toUInt32 &&& Int32.toUInt32 31)).toInt32 &&& 1431655765)).toUInt32 >>> ((2 : Int32).toUInt32 &&& Int32.toUInt32 31)).toInt32 &&& 858993459)) + ((((x0 - ((x0.toUInt32 >>> ((1 : Int32).toUInt32 &&& Int32.toUInt32 31)).toInt32 &&& 1431655765)) &&& 858993459) + (((x0 - ((x0.toUInt32 >>> ((1 : Int32).toUInt32 &&& Int32.toUInt32 31)).toInt32 &&& 1431655765)).toUInt32 >>> ((2 : Int32).toUInt32 &&& Int32.toUInt32 31)).toInt32 &&& 858993459)).toUInt32 >>> ((4 : Int32).toUInt32 &&& Int32.toUInt32 31)).toInt32) &&& 252645135).toUInt32 >>> ((8 : Int32).toUInt32 &&& Int32.toUInt32 31)).toInt32) + (((((((x0 - ((x0.toUInt32 >>> ((1 : Int32).toUInt32 &&& Int32.toUInt32 31)).toInt32 &&& 1431655765)) &&& 858993459) + (((x0 - ((x0.toUInt32 >>> ((1 : Int32).toUInt32 &&& Int32.toUInt32 31)).toInt32 &&& 1431655765)).toUInt32 >>> ((2 : Int32).toUInt32 &&& Int32.toUInt32 31)).toInt32 &&& 858993459)) + ((((x0 - ((x0.toUInt32 >>> ((1 : Int32).toUInt32 &&& Int32.toUInt32 31)).toInt32 &&& 1431655765)) &&& 858993459) + (((x0 - ((x0.toUInt32 >>> ((1 : Int32).toUInt32 &&& Int32.toUInt32 31)).toInt32 &&& 1431655765)).toUInt32 >>> ((2 : Int32).toUInt32 &&& Int32.toUInt32 31)).toInt32 &&& 858993459)).toUInt32 >>> ((4 : Int32).toUInt32 &&& Int32.toUInt32 31)).toInt32) &&& 252645135) + ((((((x0 - ((x0.toUInt32 >>> ((1 : Int32).toUInt32 &&& Int32.toUInt32 31)).toInt32 &&& 1431655765)) &&& 858993459) + (((x0 - ((x0.toUInt32 >>> ((1 : Int32).toUInt32 &&& Int32.toUInt32 31)).toInt32 &&& 1431655765)).toUInt32 >>> ((2 : Int32).toUInt32 &&& Int32.toUInt32 31)).toInt32 &&& 858993459)) + ((((x0 - ((x0.toUInt32 >>> ((1 : Int32).toUInt32 &&& Int32.toUInt32 31)).toInt32 &&& 1431655765)) &&& 858993459) + (((x0 - ((x0.toUInt32 >>> ((1 : Int32).toUInt32 &&& Int32.toUInt32 31)).toInt32 &&& 1431655765)).toUInt32 >>> ((2 : Int32).toUInt32 &&& Int32.toUInt32 31)).toInt32 &&& 858993459)).toUInt32 >>> ((4 : Int32).toUInt32 &&& Int32.toUInt32 31)).toInt32) &&& 252645135).toUInt32 >>> ((8 : Int32).toUInt32 &&& Int32.toUInt32 31)).toInt32).toUInt32 >>> ((16 : Int32).toUInt32 &&& Int32.toUInt32 31)).toInt32))]) hx hb dJ6_bitCount_0f7a4_47 rfl hl (by decide) rfl (fun ls hl => ?_)
  refine lv_iload_n hx hb dJ6_bitCount_0f7a4_48 rfl (lv_at hl 0 rfl) ?_
  refine lv_bipush (v := 63) hx hb dJ6_bitCount_0f7a4_49 (by decide) ?_
  refine lv_iand hx hb dJ6_bitCount_0f7a4_51 ?_
  exact W.iret (v := ((((((((x0 - ((x0.toUInt32 >>> ((1 : Int32).toUInt32 &&& Int32.toUInt32 31)).toInt32 &&& 1431655765)) &&& 858993459) + (((x0 - ((x0.toUInt32 >>> ((1 : Int32).toUInt32 &&& Int32.toUInt32 31)).toInt32 &&& 1431655765)).toUInt32 >>> ((2 : Int32).toUInt32 &&& Int32.toUInt32 31)).toInt32 &&& 858993459)) + ((((x0 - ((x0.toUInt32 >>> ((1 : Int32).toUInt32 &&& Int32.toUInt32 31)).toInt32 &&& 1431655765)) &&& 858993459) + (((x0 - ((x0.toUInt32 >>> ((1 : Int32).toUInt32 &&& Int32.toUInt32 31)).toInt32 &&& 1431655765)).toUInt32 >>> ((2 : Int32).toUInt32 &&& Int32.toUInt32 31)).toInt32 &&& 858993459)).toUInt32 >>> ((4 : Int32).toUInt32 &&& Int32.toUInt32 31)).toInt32) &&& 252645135) + ((((((x0 - ((x0.toUInt32 >>> ((1 : Int32).toUInt32 &&& Int32.toUInt32 31)).toInt32 &&& 1431655765)) &&& 858993459) + (((x0 - ((x0.toUInt32 >>> ((1 : Int32).toUInt32 &&& Int32.toUInt32 31)).toInt32 &&& 1431655765)).toUInt32 >>> ((2 : Int32).toUInt32 &&& Int32.toUInt32 31)).toInt32 &&& 858993459)) + ((((x0 - ((x0.toUInt32 >>> ((1 : Int32).toUInt32 &&& Int32.toUInt32 31)).toInt32 &&& 1431655765)) &&& 858993459) + (((x0 - ((x0.toUInt32 >>> ((1 : Int32).toUInt32 &&& Int32.toUInt32 31)).toInt32 &&& 1431655765)).toUInt32 >>> ((2 : Int32).toUInt32 &&& Int32.toUInt32 31)).toInt32 &&& 858993459)).toUInt32 >>> ((4 : Int32).toUInt32 &&& Int32.toUInt32 31)).toInt32) &&& 252645135).toUInt32 >>> ((8 : Int32).toUInt32 &&& Int32.toUInt32 31)).toInt32) + (((((((x0 - ((x0.toUInt32 >>> ((1 : Int32).toUInt32 &&& Int32.toUInt32 31)).toInt32 &&& 1431655765)) &&& 858993459) + (((x0 - ((x0.toUInt32 >>> ((1 : Int32).toUInt32 &&& Int32.toUInt32 31)).toInt32 &&& 1431655765)).toUInt32 >>> ((2 : Int32).toUInt32 &&& Int32.toUInt32 31)).toInt32 &&& 858993459)) + ((((x0 - ((x0.toUInt32 >>> ((1 : Int32).toUInt32 &&& Int32.toUInt32 31)).toInt32 &&& 1431655765)) &&& 858993459) + (((x0 - ((x0.toUInt32 >>> ((1 : Int32).toUInt32 &&& Int32.toUInt32 31)).toInt32 &&& 1431655765)).toUInt32 >>> ((2 : Int32).toUInt32 &&& Int32.toUInt32 31)).toInt32 &&& 858993459)).toUInt32 >>> ((4 : Int32).toUInt32 &&& Int32.toUInt32 31)).toInt32) &&& 252645135) + ((((((x0 - ((x0.toUInt32 >>> ((1 : Int32).toUInt32 &&& Int32.toUInt32 31)).toInt32 &&& 1431655765)) &&& 858993459) + (((x0 - ((x0.toUInt32 >>> ((1 : Int32).toUInt32 &&& Int32.toUInt32 31)).toInt32 &&& 1431655765)).toUInt32 >>> ((2 : Int32).toUInt32 &&& Int32.toUInt32 31)).toInt32 &&& 858993459)) + ((((x0 - ((x0.toUInt32 >>> ((1 : Int32).toUInt32 &&& Int32.toUInt32 31)).toInt32 &&& 1431655765)) &&& 858993459) + (((x0 - ((x0.toUInt32 >>> ((1 : Int32).toUInt32 &&& Int32.toUInt32 31)).toInt32 &&& 1431655765)).toUInt32 >>> ((2 : Int32).toUInt32 &&& Int32.toUInt32 31)).toInt32 &&& 858993459)).toUInt32 >>> ((4 : Int32).toUInt32 &&& Int32.toUInt32 31)).toInt32) &&& 252645135).toUInt32 >>> ((8 : Int32).toUInt32 &&& Int32.toUInt32 31)).toInt32).toUInt32 >>> ((16 : Int32).toUInt32 &&& Int32.toUInt32 31)).toInt32) &&& 63)) hx hb hr (fun t ht hW => ⟨_, rfl, Option.some.inj h, ht⟩) (fun q hq => by cases hq) dJ6_bitCount_0f7a4_52
set_option maxHeartbeats 4000000 in
set_option maxRecDepth 100000 in
theorem c_J6_bitCount_0f7a4 (l : Launch) (x0 : Int32) {o : Int32} (h : f_J6_bitCount_0f7a4 x0 = some o) : mPi l yJ6_bitCount_0f7a4 wo_J6_bitCount_0f7a4 0 [.int x0] o := by
  refine Met.ofW (cc := cJ6_bitCount_0f7a4) (maxL := 1) (ret := some .int) (by decide) rfl ?_
  intro p e s m args below meth c s₁ B hml hv
  obtain ⟨rfl, -⟩ := hv
  rw [lg_entry_eq]
  exact core_J6_bitCount_0f7a4 x0 B.exec B.bytes hml B.returns (atoms_spec (ws := wo_J6_bitCount_0f7a4) B.pre) (findClass_of_methodNamed B.named) B.notSynchronized (lv_entry [.int x0] (n := 1) (Nat.le_of_ble_eq_true rfl)) h
theorem qd_J6_bitCount_0f7a4 : yJ6_bitCount_0f7a4.cls ≠ "java/lang/invoke/MethodHandle" ∧ yJ6_bitCount_0f7a4.cls ≠ "java/lang/invoke/VarHandle" ∧ (parseMethodDescriptor yJ6_bitCount_0f7a4.desc).map (fun d => d.parameters.length) = some 1 := by decide +kernel
abbrev wo_X1_commonDivisor : List Cond := .code yX1_commonDivisor cX1_commonDivisor 11 (some .long) :: wsL_law
set_option maxHeartbeats 4000000 in
set_option maxRecDepth 100000 in
theorem core_X1_commonDivisor {N : Nat} (x0 : Int64) (x2 : Int64) {p : Program} {l : Launch} {e : Env} {s : State} {m : MethodId} {args : Array Value} {below : List Frame} {meth : Method} {c : Code} {ls : Array Slot} (hx : p.tables.exec = Jvm.exec) (hb : c.code = cX1_commonDivisor) (hml : c.maxLocals = 11) (hr : meth.sig.returnType = some .long) (hts : ∀ w ∈ wo_X1_commonDivisor, w.before args s = true) (hown : s.vm.findClass RX1 = some m.cls) (hlocks : meth.locks = false) (hl : lv_has ls 11 [(0, .long x0), (2, .long x2)]) {o : Int64} (h : f_X1_commonDivisor N x0 x2 = some o) : gRl p l e wo_X1_commonDivisor 0 s m args below meth c o (F0 m 0 ls []) := by
  unfold f_X1_commonDivisor at h
  have J45 : ∀ (x4 : Int64) (ls : Array Slot) (hl : lv_has ls 11 [(4, .long x4)]) (h : f_X1_commonDivisor_45 N x4 = some o), gRl p l e wo_X1_commonDivisor 0 s m args below meth c o (F0 m 45 ls []) := by
    intro x4 ls hl h
    unfold f_X1_commonDivisor_45 at h
    refine lv_lload hx hb dX1_commonDivisor_45 (lv_at hl 0 rfl) ?_
    exact W.lret (v := x4) hx hb hr (fun t ht hW => ⟨_, rfl, Option.some.inj h, ht⟩) (fun q hq => by cases hq) dX1_commonDivisor_47
  have L9 : ∀ (n9 : Nat) (x4 : Int64) (x6 : Int64) (x8 : Int32) (ls : Array Slot) (hl : lv_has ls 11 [(4, .long x4), (6, .long x6), (8, .int x8)]) (h : f_X1_commonDivisor_9 N n9 x4 x6 x8 = some o), gRl p l e wo_X1_commonDivisor 0 s m args below meth c o (F0 m 9 ls []) := by
    intro n9
    induction n9 with
    | zero => intro x4 x6 x8 ls hl h; cases (show (none : Option (Int64)) = some o from h)
    | succ n9 ih9 =>
      intro x4 x6 x8 ls hl h
      rw [f_X1_commonDivisor_9] at h
      refine lv_lload hx hb dX1_commonDivisor_9 (lv_at hl 1 rfl) ?_
      refine lv_lconst (v := 0) hx hb dX1_commonDivisor_11 rfl ?_
      refine W.lcmp hx hb dX1_commonDivisor_12 ?_
      refine lv_if_eq (tgt := 45) hx hb dX1_commonDivisor_13 (by decide) (fun c1 => ?_) (fun c1 => ?_)
      · replace h := (if_pos c1).symm.trans h
        exact J45 x4 ls (lv_sub hl [0] rfl) h
      · replace h := (if_neg c1).symm.trans h
        refine lv_iload hx hb dX1_commonDivisor_16 (lv_at hl 2 rfl) ?_
        refine lv_sipush (v := 200) hx hb dX1_commonDivisor_18 (by decide) ?_
        refine lv_icmp_ge (tgt := 45) hx hb dX1_commonDivisor_21 (by decide) (fun c2 => ?_) (fun c2 => ?_)
        · replace h := (if_pos c2).symm.trans h
          exact J45 x4 ls (lv_sub hl [0] rfl) h
        · replace h := (if_neg c2).symm.trans h
          refine lv_lload hx hb dX1_commonDivisor_24 (lv_at hl 0 rfl) ?_
          refine lv_lload hx hb dX1_commonDivisor_26 (lv_at hl 1 rfl) ?_
          obtain ⟨g3, h⟩ := gNeL_some h
          refine lv_lrem hx hb dX1_commonDivisor_28 g3 ?_
          refine lv_lstore (lv' := [(9, .long (x4 - x4 / x6 * x6)), (4, .long x4), (6, .long x6), (8, .int x8)]) hx hb dX1_commonDivisor_29 hl (by decide) rfl (fun ls hl => ?_)
          refine lv_lload hx hb dX1_commonDivisor_31 (lv_at hl 2 rfl) ?_
          refine lv_lstore (lv' := [(4, .long x6), (9, .long (x4 - x4 / x6 * x6)), (6, .long x6), (8, .int x8)]) hx hb dX1_commonDivisor_33 hl (by decide) rfl (fun ls hl => ?_)
          refine lv_lload hx hb dX1_commonDivisor_35 (lv_at hl 1 rfl) ?_
          refine lv_lstore (lv' := [(6, .long (x4 - x4 / x6 * x6)), (4, .long x6), (9, .long (x4 - x4 / x6 * x6)), (8, .int x8)]) hx hb dX1_commonDivisor_37 hl (by decide) rfl (fun ls hl => ?_)
          refine lv_iinc (v := (x8 + 1)) (lv' := [(8, .int (x8 + 1)), (6, .long (x4 - x4 / x6 * x6)), (4, .long x6), (9, .long (x4 - x4 / x6 * x6))]) hx hb dX1_commonDivisor_39 hl (k := 3) rfl rfl (by decide) rfl (fun ls hl => ?_)
          refine lv_goto (tgt := 9) hx hb dX1_commonDivisor_42 (by decide) ?_
          exact ih9 x6 (x4 - x4 / x6 * x6) (x8 + 1) ls (lv_sub hl [2, 1, 0] rfl) h
  refine lv_lload_n hx hb dX1_commonDivisor_0 rfl (lv_at hl 0 rfl) ?_
  refine lv_lstore (lv' := [(4, .long x0), (0, .long x0), (2, .long x2)]) hx hb dX1_commonDivisor_1 hl (by decide) rfl (fun ls hl => ?_)
  refine lv_lload_n hx hb dX1_commonDivisor_3 rfl (lv_at hl 2 rfl) ?_
  refine lv_lstore (lv' := [(6, .long x2), (4, .long x0), (0, .long x0), (2, .long x2)]) hx hb dX1_commonDivisor_4 hl (by decide) rfl (fun ls hl => ?_)
  refine lv_iconst (v := 0) hx hb dX1_commonDivisor_6 (by decide) ?_
  refine lv_istore (lv' := [(8, .int 0), (6, .long x2), (4, .long x0), (0, .long x0), (2, .long x2)]) hx hb dX1_commonDivisor_7 hl (by decide) rfl (fun ls hl => ?_)
  exact L9 N x0 x2 0 ls (lv_sub hl [2, 1, 0] rfl) h
set_option maxHeartbeats 4000000 in
set_option maxRecDepth 100000 in
theorem c_X1_commonDivisor {N : Nat} (l : Launch) (x0 : Int64) (x2 : Int64) {o : Int64} (h : f_X1_commonDivisor N x0 x2 = some o) : mPl l yX1_commonDivisor wo_X1_commonDivisor 0 [.long x0, .long x2] o := by
  refine Met.ofW (cc := cX1_commonDivisor) (maxL := 11) (ret := some .long) (by decide) rfl ?_
  intro p e s m args below meth c s₁ B hml hv
  obtain ⟨rfl, -⟩ := hv
  rw [lg_entry_eq]
  exact core_X1_commonDivisor x0 x2 B.exec B.bytes hml B.returns (atoms_spec (ws := wo_X1_commonDivisor) B.pre) (findClass_of_methodNamed B.named) B.notSynchronized (lv_entry [.long x0, .long x2] (n := 11) (Nat.le_of_ble_eq_true rfl)) h
theorem qd_X1_commonDivisor : yX1_commonDivisor.cls ≠ "java/lang/invoke/MethodHandle" ∧ yX1_commonDivisor.cls ≠ "java/lang/invoke/VarHandle" ∧ (parseMethodDescriptor yX1_commonDivisor.desc).map (fun d => d.parameters.length) = some 2 := by decide +kernel
abbrev wo_X1_part : List Cond := .code yX1_part cX1_part 7 (some .long) :: wsL_law
set_option maxHeartbeats 4000000 in
set_option maxRecDepth 100000 in
theorem core_X1_part {N : Nat} (x0 : Int64) (x2 : Int64) (x4 : Int32) {p : Program} {l : Launch} {e : Env} {s : State} {m : MethodId} {args : Array Value} {below : List Frame} {meth : Method} {c : Code} {ls : Array Slot} (hx : p.tables.exec = Jvm.exec) (hb : c.code = cX1_part) (hml : c.maxLocals = 7) (hr : meth.sig.returnType = some .long) (hts : ∀ w ∈ wo_X1_part, w.before args s = true) (hown : s.vm.findClass RX1 = some m.cls) (hlocks : meth.locks = false) (hl : lv_has ls 7 [(0, .long x0), (2, .long x2), (4, .int x4)]) {o : Int64} (h : f_X1_part N x0 x2 x4 = some o) : gRl p l e wo_X1_part 1 s m args below meth c o (F0 m 0 ls []) := by
  unfold f_X1_part at h
  have J26 : ∀ (x5 : Int64) (s0 : Int64) (ls : Array Slot) (hl : lv_has ls 7 [(5, .long x5)]) (h : f_X1_part_26 N x5 s0 = some o), gRl p l e wo_X1_part 1 s m args below meth c o (F0 m 26 ls [.long s0]) := by
    intro x5 s0 ls hl h
    unfold f_X1_part_26 at h
    refine lv_lload hx hb dX1_part_26 (lv_at hl 0 rfl) ?_
    obtain ⟨g1, h⟩ := gNeL_some h
    refine lv_ldiv hx hb dX1_part_28 g1 ?_
    exact W.lret (v := (s0 / x5)) hx hb hr (fun t ht hW => ⟨_, rfl, Option.some.inj h, ht⟩) (fun q hq => by cases hq) dX1_part_29
  refine lv_lload_n hx hb dX1_part_0 rfl (lv_at hl 0 rfl) ?_
  refine lv_lload_n hx hb dX1_part_1 rfl (lv_at hl 1 rfl) ?_
  obtain ⟨o2, eq3, h⟩ := bnd_some h
  refine kPl (rest := []) ⟨hx, hb, hml, hown, hts⟩ (c_X1_commonDivisor l x0 x2 eq3) (va_cwS 2 hts (gAS wm_515 wm_516 wm_510 wm_517) rfl rfl rfl qd_X1_commonDivisor ⟨Nat.le_of_ble_eq_true rfl, Nat.le_of_ble_eq_true rfl⟩) rfl hl.1 rfl (Nat.le_of_ble_eq_true rfl) dX1_part_2 ⟨Nat.zero_le _, Nat.zero_le _⟩ ?_
  refine lv_lstore (lv' := [(5, .long o2), (0, .long x0), (2, .long x2), (4, .int x4)]) hx hb dX1_part_5 hl (by decide) rfl (fun ls hl => ?_)
  refine lv_lload hx hb dX1_part_7 (lv_at hl 0 rfl) ?_
  refine lv_lconst (v := 0) hx hb dX1_part_9 rfl ?_
  refine W.lcmp hx hb dX1_part_10 ?_
  refine lv_if_ne (tgt := 16) hx hb dX1_part_11 (by decide) (fun c4 => ?_) (fun c4 => ?_)
  · replace h := (if_neg c4).symm.trans h
    refine lv_iload hx hb dX1_part_16 (lv_at hl 3 rfl) ?_
    refine lv_if_ne (tgt := 25) hx hb dX1_part_18 (by decide) (fun c5 => ?_) (fun c5 => ?_)
    · replace h := (if_neg c5).symm.trans h
      refine lv_lload_n hx hb dX1_part_25 rfl (lv_at hl 2 rfl) ?_
      exact J26 o2 x2 ls (lv_sub hl [0] rfl) h
    · replace h := (if_pos c5).symm.trans h
      refine lv_lload_n hx hb dX1_part_21 rfl (lv_at hl 1 rfl) ?_
      refine lv_goto (tgt := 26) hx hb dX1_part_22 (by decide) ?_
      exact J26 o2 x0 ls (lv_sub hl [0] rfl) h
  · replace h := (if_pos c4).symm.trans h
    refine lv_lconst (v := 0) hx hb dX1_part_14 rfl ?_
    exact W.lret (v := 0) hx hb hr (fun t ht hW => ⟨_, rfl, Option.some.inj h, ht⟩) (fun q hq => by cases hq) dX1_part_15
set_option maxHeartbeats 4000000 in
set_option maxRecDepth 100000 in
theorem c_X1_part {N : Nat} (l : Launch) (x0 : Int64) (x2 : Int64) (x4 : Int32) {o : Int64} (h : f_X1_part N x0 x2 x4 = some o) : mPl l yX1_part wo_X1_part 1 [.long x0, .long x2, .int x4] o := by
  refine Met.ofW (cc := cX1_part) (maxL := 7) (ret := some .long) (by decide) rfl ?_
  intro p e s m args below meth c s₁ B hml hv
  obtain ⟨rfl, -⟩ := hv
  rw [lg_entry_eq]
  exact core_X1_part x0 x2 x4 B.exec B.bytes hml B.returns (atoms_spec (ws := wo_X1_part) B.pre) (findClass_of_methodNamed B.named) B.notSynchronized (lv_entry [.long x0, .long x2, .int x4] (n := 7) (Nat.le_of_ble_eq_true rfl)) h
theorem qd_X1_part : yX1_part.cls ≠ "java/lang/invoke/MethodHandle" ∧ yX1_part.cls ≠ "java/lang/invoke/VarHandle" ∧ (parseMethodDescriptor yX1_part.desc).map (fun d => d.parameters.length) = some 3 := by decide +kernel
abbrev wo_X1_power : List Cond := .code yX1_power cX1_power 6 (some .long) :: wsL_law
set_option maxHeartbeats 4000000 in
set_option maxRecDepth 100000 in
theorem core_X1_power {N : Nat} (x0 : Int64) (x2 : Int32) {p : Program} {l : Launch} {e : Env} {s : State} {m : MethodId} {args : Array Value} {below : List Frame} {meth : Method} {c : Code} {ls : Array Slot} (hx : p.tables.exec = Jvm.exec) (hb : c.code = cX1_power) (hml : c.maxLocals = 6) (hr : meth.sig.returnType = some .long) (hts : ∀ w ∈ wo_X1_power, w.before args s = true) (hown : s.vm.findClass RX1 = some m.cls) (hlocks : meth.locks = false) (hl : lv_has ls 6 [(0, .long x0), (2, .int x2)]) {o : Int64} (h : f_X1_power N x0 x2 = some o) : gRl p l e wo_X1_power 0 s m args below meth c o (F0 m 0 ls []) := by
  unfold f_X1_power at h
  have L5 : ∀ (n5 : Nat) (x0 : Int64) (x2 : Int32) (x3 : Int64) (x5 : Int32) (ls : Array Slot) (hl : lv_has ls 6 [(0, .long x0), (2, .int x2), (3, .long x3), (5, .int x5)]) (h : f_X1_power_5 N n5 x0 x2 x3 x5 = some o), gRl p l e wo_X1_power 0 s m args below meth c o (F0 m 5 ls []) := by
    intro n5
    induction n5 with
    | zero => intro x0 x2 x3 x5 ls hl h; cases (show (none : Option (Int64)) = some o from h)
    | succ n5 ih5 =>
      intro x0 x2 x3 x5 ls hl h
      rw [f_X1_power_5] at h
      refine lv_iload hx hb dX1_power_5 (lv_at hl 3 rfl) ?_
      refine lv_iload_n hx hb dX1_power_7 rfl (lv_at hl 1 rfl) ?_
      refine lv_icmp_ge (tgt := 21) hx hb dX1_power_8 (by decide) (fun c1 => ?_) (fun c1 => ?_)
      · replace h := (if_pos c1).symm.trans h
        refine lv_lload_n hx hb dX1_power_21 rfl (lv_at hl 2 rfl) ?_
        exact W.lret (v := x3) hx hb hr (fun t ht hW => ⟨_, rfl, Option.some.inj h, ht⟩) (fun q hq => by cases hq) dX1_power_22
      · replace h := (if_neg c1).symm.trans h
        refine lv_lload_n hx hb dX1_power_11 rfl (lv_at hl 2 rfl) ?_
        refine lv_lload_n hx hb dX1_power_12 rfl (lv_at hl 0 rfl) ?_
        refine lv_lmul hx hb dX1_power_13 ?_
        refine lv_lstore_n (lv' := [(3, .long (x3 * x0)), (0, .long x0), (2, .int x2), (5, .int x5)]) hx hb dX1_power_14 rfl hl (by decide) rfl (fun ls hl => ?_)
        refine lv_iinc (v := (x5 + 1)) (lv' := [(5, .int (x5 + 1)), (3, .long (x3 * x0)), (0, .long x0), (2, .int x2)]) hx hb dX1_power_15 hl (k := 3) rfl rfl (by decide) rfl (fun ls hl => ?_)
        refine lv_goto (tgt := 5) hx hb dX1_power_18 (by decide) ?_
        exact ih5 x0 x2 (x3 * x0) (x5 + 1) ls (lv_sub hl [2, 3, 1, 0] rfl) h
  refine lv_lconst (v := 1) hx hb dX1_power_0 rfl ?_
  refine lv_lstore_n (lv' := [(3, .long 1), (0, .long x0), (2, .int x2)]) hx hb dX1_power_1 rfl hl (by decide) rfl (fun ls hl => ?_)
  refine lv_iconst (v := 0) hx hb dX1_power_2 (by decide) ?_
  refine lv_istore (lv' := [(5, .int 0), (3, .long 1), (0, .long x0), (2, .int x2)]) hx hb dX1_power_3 hl (by decide) rfl (fun ls hl => ?_)
  exact L5 N x0 x2 1 0 ls (lv_sub hl [2, 3, 1, 0] rfl) h
set_option maxHeartbeats 4000000 in
set_option maxRecDepth 100000 in
theorem c_X1_power {N : Nat} (l : Launch) (x0 : Int64) (x2 : Int32) {o : Int64} (h : f_X1_power N x0 x2 = some o) : mPl l yX1_power wo_X1_power 0 [.long x0, .int x2] o := by
  refine Met.ofW (cc := cX1_power) (maxL := 6) (ret := some .long) (by decide) rfl ?_
  intro p e s m args below meth c s₁ B hml hv
  obtain ⟨rfl, -⟩ := hv
  rw [lg_entry_eq]
  exact core_X1_power x0 x2 B.exec B.bytes hml B.returns (atoms_spec (ws := wo_X1_power) B.pre) (findClass_of_methodNamed B.named) B.notSynchronized (lv_entry [.long x0, .int x2] (n := 6) (Nat.le_of_ble_eq_true rfl)) h
theorem qd_X1_power : yX1_power.cls ≠ "java/lang/invoke/MethodHandle" ∧ yX1_power.cls ≠ "java/lang/invoke/VarHandle" ∧ (parseMethodDescriptor yX1_power.desc).map (fun d => d.parameters.length) = some 2 := by decide +kernel
abbrev wo_X2_after : List Cond := .code yX2_after cX2_after 3 (some .int) :: wsL_law
set_option maxHeartbeats 4000000 in
set_option maxRecDepth 100000 in
theorem core_X2_after (x0 : Int32) {p : Program} {l : Launch} {e : Env} {s : State} {m : MethodId} {args : Array Value} {below : List Frame} {meth : Method} {c : Code} {ls : Array Slot} (hx : p.tables.exec = Jvm.exec) (hb : c.code = cX2_after) (hml : c.maxLocals = 3) (hr : meth.sig.returnType = some .int) (hts : ∀ w ∈ wo_X2_after, w.before args s = true) (hown : s.vm.findClass RX2 = some m.cls) (hlocks : meth.locks = false) (hl : lv_has ls 3 [(0, .int x0)]) {o : Int32} (h : f_X2_after x0 = some o) : gRi p l e wo_X2_after 0 s m args below meth c o (F0 m 0 ls []) := by
  unfold f_X2_after at h
  refine lv_iload_n hx hb dX2_after_0 rfl (lv_at hl 0 rfl) ?_
  refine lv_iload_n hx hb dX2_after_1 rfl (lv_at hl 0 rfl) ?_
  refine lv_ineg hx hb dX2_after_2 ?_
  refine lv_iand hx hb dX2_after_3 ?_
  refine lv_istore_n (lv' := [(1, .int (x0 &&& (-x0))), (0, .int x0)]) hx hb dX2_after_4 rfl hl (by decide) rfl (fun ls hl => ?_)
  refine lv_iload_n hx hb dX2_after_5 rfl (lv_at hl 0 rfl) ?_
  refine lv_if_ne (tgt := 11) hx hb dX2_after_6 (by decide) (fun c1 => ?_) (fun c1 => ?_)
  · replace h := (if_neg c1).symm.trans h
    refine lv_iload_n hx hb dX2_after_11 rfl (lv_at hl 1 rfl) ?_
    refine lv_iload_n hx hb dX2_after_12 rfl (lv_at hl 0 rfl) ?_
    refine lv_iadd hx hb dX2_after_13 ?_
    refine lv_istore_n (lv' := [(2, .int (x0 + (x0 &&& (-x0)))), (1, .int (x0 &&& (-x0))), (0, .int x0)]) hx hb dX2_after_14 rfl hl (by decide) rfl (fun ls hl => ?_)
    refine lv_iload_n hx hb dX2_after_15 rfl (lv_at hl 0 rfl) ?_
    refine lv_iload_n hx hb dX2_after_16 rfl (lv_at hl 2 rfl) ?_
    refine lv_iload_n hx hb dX2_after_17 rfl (lv_at hl 0 rfl) ?_
    refine lv_ixor hx hb dX2_after_18 ?_
    refine lv_iload_n hx hb dX2_after_19 rfl (lv_at hl 1 rfl) ?_
    obtain ⟨g2, h⟩ := gNe_some h
    refine lv_idiv hx hb dX2_after_20 g2 ?_
    refine lv_iconst (v := 2) hx hb dX2_after_21 (by decide) ?_
    refine lv_ishr hx hb dX2_after_22 ?_
    refine lv_ior hx hb dX2_after_23 ?_
    exact W.iret (v := ((x0 + (x0 &&& (-x0))) ||| (((x0 ^^^ (x0 + (x0 &&& (-x0)))) / (x0 &&& (-x0))) >>> ((2 : Int32) &&& 31)))) hx hb hr (fun t ht hW => ⟨_, rfl, Option.some.inj h, ht⟩) (fun q hq => by cases hq) dX2_after_24
  · replace h := (if_pos c1).symm.trans h
    refine lv_iload_n hx hb dX2_after_9 rfl (lv_at hl 1 rfl) ?_
    exact W.iret (v := x0) hx hb hr (fun t ht hW => ⟨_, rfl, Option.some.inj h, ht⟩) (fun q hq => by cases hq) dX2_after_10
set_option maxHeartbeats 4000000 in
set_option maxRecDepth 100000 in
theorem c_X2_after (l : Launch) (x0 : Int32) {o : Int32} (h : f_X2_after x0 = some o) : mPi l yX2_after wo_X2_after 0 [.int x0] o := by
  refine Met.ofW (cc := cX2_after) (maxL := 3) (ret := some .int) (by decide) rfl ?_
  intro p e s m args below meth c s₁ B hml hv
  obtain ⟨rfl, -⟩ := hv
  rw [lg_entry_eq]
  exact core_X2_after x0 B.exec B.bytes hml B.returns (atoms_spec (ws := wo_X2_after) B.pre) (findClass_of_methodNamed B.named) B.notSynchronized (lv_entry [.int x0] (n := 3) (Nat.le_of_ble_eq_true rfl)) h
theorem qd_X2_after : yX2_after.cls ≠ "java/lang/invoke/MethodHandle" ∧ yX2_after.cls ≠ "java/lang/invoke/VarHandle" ∧ (parseMethodDescriptor yX2_after.desc).map (fun d => d.parameters.length) = some 1 := by decide +kernel
abbrev wo_X2_behindHits : List Cond := .code yX2_behindHits cX2_behindHits 4 (some .int) :: wsL_law
set_option maxHeartbeats 4000000 in
set_option maxRecDepth 100000 in
theorem core_X2_behindHits {N : Nat} (x0 : Int32) (x1 : Int32) {p : Program} {l : Launch} {e : Env} {s : State} {m : MethodId} {args : Array Value} {below : List Frame} {meth : Method} {c : Code} {ls : Array Slot} (hx : p.tables.exec = Jvm.exec) (hb : c.code = cX2_behindHits) (hml : c.maxLocals = 4) (hr : meth.sig.returnType = some .int) (hts : ∀ w ∈ wo_X2_behindHits, w.before args s = true) (hown : s.vm.findClass RX2 = some m.cls) (hlocks : meth.locks = false) (hl : lv_has ls 4 [(0, .int x0), (1, .int x1)]) {o : Int32} (h : f_X2_behindHits N x0 x1 = some o) : gRi p l e wo_X2_behindHits 0 s m args below meth c o (F0 m 0 ls []) := by
  unfold f_X2_behindHits at h
  have L6 : ∀ (n6 : Nat) (x0 : Int32) (x1 : Int32) (x2 : Int32) (x3 : Int32) (ls : Array Slot) (hl : lv_has ls 4 [(0, .int x0), (1, .int x1), (2, .int x2), (3, .int x3)]) (h : f_X2_behindHits_6 N n6 x0 x1 x2 x3 = some o), gRi p l e wo_X2_behindHits 0 s m args below meth c o (F0 m 6 ls []) := by
    intro n6
    induction n6 with
    | zero => intro x0 x1 x2 x3 ls hl h; cases (show (none : Option (Int32)) = some o from h)
    | succ n6 ih6 =>
      intro x0 x1 x2 x3 ls hl h
      rw [f_X2_behindHits_6] at h
      refine lv_iload_n hx hb dX2_behindHits_6 rfl (lv_at hl 3 rfl) ?_
      refine lv_iload_n hx hb dX2_behindHits_7 rfl (lv_at hl 1 rfl) ?_
      refine lv_icmp_gt (tgt := 23) hx hb dX2_behindHits_8 (by decide) (fun c1 => ?_) (fun c1 => ?_)
      · replace h := (if_pos c1).symm.trans h
        refine lv_iload_n hx hb dX2_behindHits_23 rfl (lv_at hl 2 rfl) ?_
        exact W.iret (v := x2) hx hb hr (fun t ht hW => ⟨_, rfl, Option.some.inj h, ht⟩) (fun q hq => by cases hq) dX2_behindHits_24
      · replace h := (if_neg c1).symm.trans h
        refine lv_iload_n hx hb dX2_behindHits_11 rfl (lv_at hl 2 rfl) ?_
        refine lv_iload_n hx hb dX2_behindHits_12 rfl (lv_at hl 0 rfl) ?_
        refine lv_iload_n hx hb dX2_behindHits_13 rfl (lv_at hl 3 rfl) ?_
        refine lv_ishr hx hb dX2_behindHits_14 ?_
        refine lv_iand hx hb dX2_behindHits_15 ?_
        refine lv_istore_n (lv' := [(2, .int (x2 &&& (x0 >>> (x3 &&& 31)))), (0, .int x0), (1, .int x1), (3, .int x3)]) hx hb dX2_behindHits_16 rfl hl (by decide) rfl (fun ls hl => ?_)
        refine lv_iinc (v := (x3 + 1)) (lv' := [(3, .int (x3 + 1)), (2, .int (x2 &&& (x0 >>> (x3 &&& 31)))), (0, .int x0), (1, .int x1)]) hx hb dX2_behindHits_17 hl (k := 3) rfl rfl (by decide) rfl (fun ls hl => ?_)
        refine lv_goto (tgt := 6) hx hb dX2_behindHits_20 (by decide) ?_
        exact ih6 x0 x1 (x2 &&& (x0 >>> (x3 &&& 31))) (x3 + 1) ls (lv_sub hl [2, 3, 1, 0] rfl) h
  refine lv_iload_n hx hb dX2_behindHits_0 rfl (lv_at hl 0 rfl) ?_
  refine lv_iconst (v := 1) hx hb dX2_behindHits_1 (by decide) ?_
  refine lv_ishr hx hb dX2_behindHits_2 ?_
  refine lv_istore_n (lv' := [(2, .int (x0 >>> ((1 : Int32) &&& 31))), (0, .int x0), (1, .int x1)]) hx hb dX2_behindHits_3 rfl hl (by decide) rfl (fun ls hl => ?_)
  refine lv_iconst (v := 2) hx hb dX2_behindHits_4 (by decide) ?_
  refine lv_istore_n (lv' := [(3, .int 2), (2, .int (x0 >>> ((1 : Int32) &&& 31))), (0, .int x0), (1, .int x1)]) hx hb dX2_behindHits_5 rfl hl (by decide) rfl (fun ls hl => ?_)
  exact L6 N x0 x1 (x0 >>> ((1 : Int32) &&& 31)) 2 ls (lv_sub hl [2, 3, 1, 0] rfl) h
set_option maxHeartbeats 4000000 in
set_option maxRecDepth 100000 in
theorem c_X2_behindHits {N : Nat} (l : Launch) (x0 : Int32) (x1 : Int32) {o : Int32} (h : f_X2_behindHits N x0 x1 = some o) : mPi l yX2_behindHits wo_X2_behindHits 0 [.int x0, .int x1] o := by
  refine Met.ofW (cc := cX2_behindHits) (maxL := 4) (ret := some .int) (by decide) rfl ?_
  intro p e s m args below meth c s₁ B hml hv
  obtain ⟨rfl, -⟩ := hv
  rw [lg_entry_eq]
  exact core_X2_behindHits x0 x1 B.exec B.bytes hml B.returns (atoms_spec (ws := wo_X2_behindHits) B.pre) (findClass_of_methodNamed B.named) B.notSynchronized (lv_entry [.int x0, .int x1] (n := 4) (Nat.le_of_ble_eq_true rfl)) h
theorem qd_X2_behindHits : yX2_behindHits.cls ≠ "java/lang/invoke/MethodHandle" ∧ yX2_behindHits.cls ≠ "java/lang/invoke/VarHandle" ∧ (parseMethodDescriptor yX2_behindHits.desc).map (fun d => d.parameters.length) = some 2 := by decide +kernel
abbrev wo_X2_heat : List Cond := .code yX2_heat cX2_heat 3 (some .long) :: wsL_law
set_option maxHeartbeats 4000000 in
set_option maxRecDepth 100000 in
theorem core_X2_heat (x0 : Int32) (x1 : Int32) {p : Program} {l : Launch} {e : Env} {s : State} {m : MethodId} {args : Array Value} {below : List Frame} {meth : Method} {c : Code} {ls : Array Slot} (hx : p.tables.exec = Jvm.exec) (hb : c.code = cX2_heat) (hml : c.maxLocals = 3) (hr : meth.sig.returnType = some .long) (hts : ∀ w ∈ wo_X2_heat, w.before args s = true) (hown : s.vm.findClass RX2 = some m.cls) (hlocks : meth.locks = false) (hl : lv_has ls 3 [(0, .int x0), (1, .int x1)]) {o : Int64} (h : f_X2_heat x0 x1 = some o) : gRl p l e wo_X2_heat 1 s m args below meth c o (F0 m 0 ls []) := by
  have kc24 := hts _ (List.mem_cons_of_mem _ wm_660)
  unfold f_X2_heat at h
  refine lv_iload_n hx hb dX2_heat_0 rfl (lv_at hl 1 rfl) ?_
  obtain ⟨o1, eq2, h⟩ := bnd_some h
  refine kPi (rest := []) ⟨hx, hb, hml, hown, hts⟩ (c_J6_bitCount_0f7a4 l x1 eq2) (va_cwS 1 hts (gAS wm_596 wm_210 wm_211 wm_212) rfl rfl rfl qd_J6_bitCount_0f7a4 ⟨Nat.le_of_ble_eq_true rfl, Nat.le_of_ble_eq_true rfl⟩) rfl hl.1 rfl (Nat.le_of_ble_eq_true rfl) dX2_heat_1 ⟨Nat.zero_le _, Nat.zero_le _⟩ ?_
  refine lv_istore_n (lv' := [(2, .int o1), (0, .int x0), (1, .int x1)]) hx hb dX2_heat_4 rfl hl (by decide) rfl (fun ls hl => ?_)
  refine lv_iload_n hx hb dX2_heat_5 rfl (lv_at hl 0 rfl) ?_
  refine lv_if_ne (tgt := 13) hx hb dX2_heat_6 (by decide) (fun c3 => ?_) (fun c3 => ?_)
  · replace h := (if_neg c3).symm.trans h
    refine lv_iload_n hx hb dX2_heat_13 rfl (lv_at hl 2 rfl) ?_
    refine lv_iload_n hx hb dX2_heat_14 rfl (lv_at hl 1 rfl) ?_
    refine lv_iand hx hb dX2_heat_15 ?_
    obtain ⟨o4, eq5, h⟩ := bnd_some h
    refine kPi (rest := []) ⟨hx, hb, hml, hown, hts⟩ (c_J6_bitCount_0f7a4 l (x1 &&& x0) eq5) (va_cwS 1 hts (gAS wm_596 wm_210 wm_211 wm_212) rfl rfl rfl qd_J6_bitCount_0f7a4 ⟨Nat.le_of_ble_eq_true rfl, Nat.le_of_ble_eq_true rfl⟩) rfl hl.1 rfl (Nat.le_of_ble_eq_true rfl) dX2_heat_16 ⟨Nat.zero_le _, Nat.zero_le _⟩ ?_
    refine lv_i2l (v := o4.toInt64) hx hb dX2_heat_19 rfl ?_
    refine lv_ldc2 (v := 360360) hx hb hown kc24 dX2_heat_20 ?_
    refine lv_iload_n hx hb dX2_heat_23 rfl (lv_at hl 0 rfl) ?_
    refine lv_i2l (v := o1.toInt64) hx hb dX2_heat_24 rfl ?_
    obtain ⟨g6, h⟩ := gNeL_some h
    refine lv_ldiv hx hb dX2_heat_25 g6 ?_
    refine lv_lmul hx hb dX2_heat_26 ?_
    exact W.lret (v := (o4.toInt64 * (360360 / o1.toInt64))) hx hb hr (fun t ht hW => ⟨_, rfl, Option.some.inj h, ht⟩) (fun q hq => by cases hq) dX2_heat_27
  · replace h := (if_pos c3).symm.trans h
    refine lv_lconst (v := 0) hx hb dX2_heat_9 rfl ?_
    refine lv_goto (tgt := 27) hx hb dX2_heat_10 (by decide) ?_
    exact W.lret (v := 0) hx hb hr (fun t ht hW => ⟨_, rfl, Option.some.inj h, ht⟩) (fun q hq => by cases hq) dX2_heat_27
set_option maxHeartbeats 4000000 in
set_option maxRecDepth 100000 in
theorem c_X2_heat (l : Launch) (x0 : Int32) (x1 : Int32) {o : Int64} (h : f_X2_heat x0 x1 = some o) : mPl l yX2_heat wo_X2_heat 1 [.int x0, .int x1] o := by
  refine Met.ofW (cc := cX2_heat) (maxL := 3) (ret := some .long) (by decide) rfl ?_
  intro p e s m args below meth c s₁ B hml hv
  obtain ⟨rfl, -⟩ := hv
  rw [lg_entry_eq]
  exact core_X2_heat x0 x1 B.exec B.bytes hml B.returns (atoms_spec (ws := wo_X2_heat) B.pre) (findClass_of_methodNamed B.named) B.notSynchronized (lv_entry [.int x0, .int x1] (n := 3) (Nat.le_of_ble_eq_true rfl)) h
theorem qd_X2_heat : yX2_heat.cls ≠ "java/lang/invoke/MethodHandle" ∧ yX2_heat.cls ≠ "java/lang/invoke/VarHandle" ∧ (parseMethodDescriptor yX2_heat.desc).map (fun d => d.parameters.length) = some 2 := by decide +kernel
abbrev wo_X3_runs : List Cond := .code yX3_runs cX3_runs 3 (some .int) :: wsL_law
set_option maxHeartbeats 4000000 in
set_option maxRecDepth 100000 in
theorem core_X3_runs (x0 : Int32) (x1 : Int32) {p : Program} {l : Launch} {e : Env} {s : State} {m : MethodId} {args : Array Value} {below : List Frame} {meth : Method} {c : Code} {ls : Array Slot} (hx : p.tables.exec = Jvm.exec) (hb : c.code = cX3_runs) (hml : c.maxLocals = 3) (hr : meth.sig.returnType = some .int) (hts : ∀ w ∈ wo_X3_runs, w.before args s = true) (hown : s.vm.findClass RX3 = some m.cls) (hlocks : meth.locks = false) (hl : lv_has ls 3 [(0, .int x0), (1, .int x1)]) {o : Int32} (h : f_X3_runs x0 x1 = some o) : gRi p l e wo_X3_runs 1 s m args below meth c o (F0 m 0 ls []) := by
  unfold f_X3_runs at h
  refine lv_iload_n hx hb dX3_runs_0 rfl (lv_at hl 0 rfl) ?_
  refine lv_if_ne (tgt := 6) hx hb dX3_runs_1 (by decide) (fun c1 => ?_) (fun c1 => ?_)
  · replace h := (if_neg c1).symm.trans h
    refine lv_iload_n hx hb dX3_runs_6 rfl (lv_at hl 1 rfl) ?_
    refine lv_iload_n hx hb dX3_runs_7 rfl (lv_at hl 1 rfl) ?_
    refine lv_iconst (v := 1) hx hb dX3_runs_8 (by decide) ?_
    refine lv_ishr hx hb dX3_runs_9 ?_
    refine lv_ixor hx hb dX3_runs_10 ?_
    refine lv_iconst (v := 1) hx hb dX3_runs_11 (by decide) ?_
    refine lv_iload_n hx hb dX3_runs_12 rfl (lv_at hl 0 rfl) ?_
    refine lv_iconst (v := 1) hx hb dX3_runs_13 (by decide) ?_
    refine lv_isub hx hb dX3_runs_14 ?_
    refine lv_ishl hx hb dX3_runs_15 ?_
    refine lv_iconst (v := 1) hx hb dX3_runs_16 (by decide) ?_
    refine lv_isub hx hb dX3_runs_17 ?_
    refine lv_iand hx hb dX3_runs_18 ?_
    refine lv_istore_n (lv' := [(2, .int ((x1 ^^^ (x1 >>> ((1 : Int32) &&& 31))) &&& (((1 : Int32) <<< ((x0 - 1) &&& 31)) - 1))), (0, .int x0), (1, .int x1)]) hx hb dX3_runs_19 rfl hl (by decide) rfl (fun ls hl => ?_)
    refine lv_iconst (v := 1) hx hb dX3_runs_20 (by decide) ?_
    refine lv_iload_n hx hb dX3_runs_21 rfl (lv_at hl 0 rfl) ?_
    obtain ⟨o2, eq3, h⟩ := bnd_some h
    refine kPi (rest := [.int 1]) ⟨hx, hb, hml, hown, hts⟩ (c_J6_bitCount_0f7a4 l ((x1 ^^^ (x1 >>> ((1 : Int32) &&& 31))) &&& (((1 : Int32) <<< ((x0 - 1) &&& 31)) - 1)) eq3) (va_cwS 1 hts (gAS wm_209 wm_210 wm_211 wm_212) rfl rfl rfl qd_J6_bitCount_0f7a4 ⟨Nat.le_of_ble_eq_true rfl, Nat.le_of_ble_eq_true rfl⟩) rfl hl.1 rfl (Nat.le_of_ble_eq_true rfl) dX3_runs_22 ⟨Nat.zero_le _, Nat.zero_le _⟩ ?_
    refine lv_iadd hx hb dX3_runs_25 ?_
    exact W.iret (v := ((1 : Int32) + o2)) hx hb hr (fun t ht hW => ⟨_, rfl, Option.some.inj h, ht⟩) (fun q hq => by cases hq) dX3_runs_26
  · replace h := (if_pos c1).symm.trans h
    refine lv_iconst (v := 0) hx hb dX3_runs_4 (by decide) ?_
    exact W.iret (v := 0) hx hb hr (fun t ht hW => ⟨_, rfl, Option.some.inj h, ht⟩) (fun q hq => by cases hq) dX3_runs_5
set_option maxHeartbeats 4000000 in
set_option maxRecDepth 100000 in
theorem c_X3_runs (l : Launch) (x0 : Int32) (x1 : Int32) {o : Int32} (h : f_X3_runs x0 x1 = some o) : mPi l yX3_runs wo_X3_runs 1 [.int x0, .int x1] o := by
  refine Met.ofW (cc := cX3_runs) (maxL := 3) (ret := some .int) (by decide) rfl ?_
  intro p e s m args below meth c s₁ B hml hv
  obtain ⟨rfl, -⟩ := hv
  rw [lg_entry_eq]
  exact core_X3_runs x0 x1 B.exec B.bytes hml B.returns (atoms_spec (ws := wo_X3_runs) B.pre) (findClass_of_methodNamed B.named) B.notSynchronized (lv_entry [.int x0, .int x1] (n := 3) (Nat.le_of_ble_eq_true rfl)) h
theorem qd_X3_runs : yX3_runs.cls ≠ "java/lang/invoke/MethodHandle" ∧ yX3_runs.cls ≠ "java/lang/invoke/VarHandle" ∧ (parseMethodDescriptor yX3_runs.desc).map (fun d => d.parameters.length) = some 2 := by decide +kernel
abbrev wo_X3_longestRun : List Cond := .code yX3_longestRun cX3_longestRun 3 (some .int) :: wsL_law
set_option maxHeartbeats 4000000 in
set_option maxRecDepth 100000 in
theorem core_X3_longestRun {N : Nat} (x0 : Int32) {p : Program} {l : Launch} {e : Env} {s : State} {m : MethodId} {args : Array Value} {below : List Frame} {meth : Method} {c : Code} {ls : Array Slot} (hx : p.tables.exec = Jvm.exec) (hb : c.code = cX3_longestRun) (hml : c.maxLocals = 3) (hr : meth.sig.returnType = some .int) (hts : ∀ w ∈ wo_X3_longestRun, w.before args s = true) (hown : s.vm.findClass RX3 = some m.cls) (hlocks : meth.locks = false) (hl : lv_has ls 3 [(0, .int x0)]) {o : Int32} (h : f_X3_longestRun N x0 = some o) : gRi p l e wo_X3_longestRun 0 s m args below meth c o (F0 m 0 ls []) := by
  unfold f_X3_longestRun at h
  have J26 : ∀ (x2 : Int32) (ls : Array Slot) (hl : lv_has ls 3 [(2, .int x2)]) (h : f_X3_longestRun_26 N x2 = some o), gRi p l e wo_X3_longestRun 0 s m args below meth c o (F0 m 26 ls []) := by
    intro x2 ls hl h
    unfold f_X3_longestRun_26 at h
    refine lv_iload_n hx hb dX3_longestRun_26 rfl (lv_at hl 0 rfl) ?_
    exact W.iret (v := x2) hx hb hr (fun t ht hW => ⟨_, rfl, Option.some.inj h, ht⟩) (fun q hq => by cases hq) dX3_longestRun_27
  have L4 : ∀ (n4 : Nat) (x1 : Int32) (x2 : Int32) (ls : Array Slot) (hl : lv_has ls 3 [(1, .int x1), (2, .int x2)]) (h : f_X3_longestRun_4 N n4 x1 x2 = some o), gRi p l e wo_X3_longestRun 0 s m args below meth c o (F0 m 4 ls []) := by
    intro n4
    induction n4 with
    | zero => intro x1 x2 ls hl h; cases (show (none : Option (Int32)) = some o from h)
    | succ n4 ih4 =>
      intro x1 x2 ls hl h
      rw [f_X3_longestRun_4] at h
      refine lv_iload_n hx hb dX3_longestRun_4 rfl (lv_at hl 0 rfl) ?_
      refine lv_if_eq (tgt := 26) hx hb dX3_longestRun_5 (by decide) (fun c1 => ?_) (fun c1 => ?_)
      · replace h := (if_pos c1).symm.trans h
        exact J26 x2 ls (lv_sub hl [1] rfl) h
      · replace h := (if_neg c1).symm.trans h
        refine lv_iload_n hx hb dX3_longestRun_8 rfl (lv_at hl 1 rfl) ?_
        refine lv_bipush (v := 15) hx hb dX3_longestRun_9 (by decide) ?_
        refine lv_icmp_ge (tgt := 26) hx hb dX3_longestRun_11 (by decide) (fun c2 => ?_) (fun c2 => ?_)
        · replace h := (if_pos c2).symm.trans h
          exact J26 x2 ls (lv_sub hl [1] rfl) h
        · replace h := (if_neg c2).symm.trans h
          refine lv_iload_n hx hb dX3_longestRun_14 rfl (lv_at hl 0 rfl) ?_
          refine lv_iload_n hx hb dX3_longestRun_15 rfl (lv_at hl 0 rfl) ?_
          refine lv_iconst (v := 1) hx hb dX3_longestRun_16 (by decide) ?_
          refine lv_ishr hx hb dX3_longestRun_17 ?_
          refine lv_iand hx hb dX3_longestRun_18 ?_
          refine lv_istore_n (lv' := [(1, .int (x1 &&& (x1 >>> ((1 : Int32) &&& 31)))), (2, .int x2)]) hx hb dX3_longestRun_19 rfl hl (by decide) rfl (fun ls hl => ?_)
          refine lv_iinc (v := (x2 + 1)) (lv' := [(2, .int (x2 + 1)), (1, .int (x1 &&& (x1 >>> ((1 : Int32) &&& 31))))]) hx hb dX3_longestRun_20 hl (k := 1) rfl rfl (by decide) rfl (fun ls hl => ?_)
          refine lv_goto (tgt := 4) hx hb dX3_longestRun_23 (by decide) ?_
          exact ih4 (x1 &&& (x1 >>> ((1 : Int32) &&& 31))) (x2 + 1) ls (lv_sub hl [1, 0] rfl) h
  refine lv_iload_n hx hb dX3_longestRun_0 rfl (lv_at hl 0 rfl) ?_
  refine lv_istore_n (lv' := [(1, .int x0), (0, .int x0)]) hx hb dX3_longestRun_1 rfl hl (by decide) rfl (fun ls hl => ?_)
  refine lv_iconst (v := 0) hx hb dX3_longestRun_2 (by decide) ?_
  refine lv_istore_n (lv' := [(2, .int 0), (1, .int x0), (0, .int x0)]) hx hb dX3_longestRun_3 rfl hl (by decide) rfl (fun ls hl => ?_)
  exact L4 N x0 0 ls (lv_sub hl [1, 0] rfl) h
set_option maxHeartbeats 4000000 in
set_option maxRecDepth 100000 in
theorem c_X3_longestRun {N : Nat} (l : Launch) (x0 : Int32) {o : Int32} (h : f_X3_longestRun N x0 = some o) : mPi l yX3_longestRun wo_X3_longestRun 0 [.int x0] o := by
  refine Met.ofW (cc := cX3_longestRun) (maxL := 3) (ret := some .int) (by decide) rfl ?_
  intro p e s m args below meth c s₁ B hml hv
  obtain ⟨rfl, -⟩ := hv
  rw [lg_entry_eq]
  exact core_X3_longestRun x0 B.exec B.bytes hml B.returns (atoms_spec (ws := wo_X3_longestRun) B.pre) (findClass_of_methodNamed B.named) B.notSynchronized (lv_entry [.int x0] (n := 3) (Nat.le_of_ble_eq_true rfl)) h
theorem qd_X3_longestRun : yX3_longestRun.cls ≠ "java/lang/invoke/MethodHandle" ∧ yX3_longestRun.cls ≠ "java/lang/invoke/VarHandle" ∧ (parseMethodDescriptor yX3_longestRun.desc).map (fun d => d.parameters.length) = some 1 := by decide +kernel
abbrev wo_X3_firstHit : List Cond := .code yX3_firstHit cX3_firstHit 3 (some .int) :: wsL_law
set_option maxHeartbeats 4000000 in
set_option maxRecDepth 100000 in
theorem core_X3_firstHit {N : Nat} (x0 : Int32) (x1 : Int32) {p : Program} {l : Launch} {e : Env} {s : State} {m : MethodId} {args : Array Value} {below : List Frame} {meth : Method} {c : Code} {ls : Array Slot} (hx : p.tables.exec = Jvm.exec) (hb : c.code = cX3_firstHit) (hml : c.maxLocals = 3) (hr : meth.sig.returnType = some .int) (hts : ∀ w ∈ wo_X3_firstHit, w.before args s = true) (hown : s.vm.findClass RX3 = some m.cls) (hlocks : meth.locks = false) (hl : lv_has ls 3 [(0, .int x0), (1, .int x1)]) {o : Int32} (h : f_X3_firstHit N x0 x1 = some o) : gRi p l e wo_X3_firstHit 0 s m args below meth c o (F0 m 0 ls []) := by
  unfold f_X3_firstHit at h
  have L2 : ∀ (n2 : Nat) (x0 : Int32) (x1 : Int32) (x2 : Int32) (ls : Array Slot) (hl : lv_has ls 3 [(0, .int x0), (1, .int x1), (2, .int x2)]) (h : f_X3_firstHit_2 N n2 x0 x1 x2 = some o), gRi p l e wo_X3_firstHit 0 s m args below meth c o (F0 m 2 ls []) := by
    intro n2
    induction n2 with
    | zero => intro x0 x1 x2 ls hl h; cases (show (none : Option (Int32)) = some o from h)
    | succ n2 ih2 =>
      intro x0 x1 x2 ls hl h
      rw [f_X3_firstHit_2] at h
      refine lv_iload_n hx hb dX3_firstHit_2 rfl (lv_at hl 2 rfl) ?_
      refine lv_iload_n hx hb dX3_firstHit_3 rfl (lv_at hl 0 rfl) ?_
      refine lv_icmp_ge (tgt := 28) hx hb dX3_firstHit_4 (by decide) (fun c1 => ?_) (fun c1 => ?_)
      · replace h := (if_pos c1).symm.trans h
        refine lv_bipush (v := 15) hx hb dX3_firstHit_28 (by decide) ?_
        exact W.iret (v := 15) hx hb hr (fun t ht hW => ⟨_, rfl, Option.some.inj h, ht⟩) (fun q hq => by cases hq) dX3_firstHit_30
      · replace h := (if_neg c1).symm.trans h
        refine lv_iload_n hx hb dX3_firstHit_7 rfl (lv_at hl 1 rfl) ?_
        refine lv_iload_n hx hb dX3_firstHit_8 rfl (lv_at hl 0 rfl) ?_
        refine lv_iconst (v := 1) hx hb dX3_firstHit_9 (by decide) ?_
        refine lv_isub hx hb dX3_firstHit_10 ?_
        refine lv_iload_n hx hb dX3_firstHit_11 rfl (lv_at hl 2 rfl) ?_
        refine lv_isub hx hb dX3_firstHit_12 ?_
        refine lv_ishr hx hb dX3_firstHit_13 ?_
        refine lv_iconst (v := 1) hx hb dX3_firstHit_14 (by decide) ?_
        refine lv_iand hx hb dX3_firstHit_15 ?_
        refine lv_iconst (v := 1) hx hb dX3_firstHit_16 (by decide) ?_
        refine lv_icmp_ne (tgt := 22) hx hb dX3_firstHit_17 (by decide) (fun c2 => ?_) (fun c2 => ?_)
        · replace h := (if_neg c2).symm.trans h
          refine lv_iinc (v := (x2 + 1)) (lv' := [(2, .int (x2 + 1)), (0, .int x0), (1, .int x1)]) hx hb dX3_firstHit_22 hl (k := 2) rfl rfl (by decide) rfl (fun ls hl => ?_)
          refine lv_goto (tgt := 2) hx hb dX3_firstHit_25 (by decide) ?_
          exact ih2 x0 x1 (x2 + 1) ls (lv_sub hl [1, 2, 0] rfl) h
        · replace h := (if_pos c2).symm.trans h
          refine lv_iload_n hx hb dX3_firstHit_20 rfl (lv_at hl 2 rfl) ?_
          exact W.iret (v := x2) hx hb hr (fun t ht hW => ⟨_, rfl, Option.some.inj h, ht⟩) (fun q hq => by cases hq) dX3_firstHit_21
  refine lv_iconst (v := 0) hx hb dX3_firstHit_0 (by decide) ?_
  refine lv_istore_n (lv' := [(2, .int 0), (0, .int x0), (1, .int x1)]) hx hb dX3_firstHit_1 rfl hl (by decide) rfl (fun ls hl => ?_)
  exact L2 N x0 x1 0 ls (lv_sub hl [1, 2, 0] rfl) h
set_option maxHeartbeats 4000000 in
set_option maxRecDepth 100000 in
theorem c_X3_firstHit {N : Nat} (l : Launch) (x0 : Int32) (x1 : Int32) {o : Int32} (h : f_X3_firstHit N x0 x1 = some o) : mPi l yX3_firstHit wo_X3_firstHit 0 [.int x0, .int x1] o := by
  refine Met.ofW (cc := cX3_firstHit) (maxL := 3) (ret := some .int) (by decide) rfl ?_
  intro p e s m args below meth c s₁ B hml hv
  obtain ⟨rfl, -⟩ := hv
  rw [lg_entry_eq]
  exact core_X3_firstHit x0 x1 B.exec B.bytes hml B.returns (atoms_spec (ws := wo_X3_firstHit) B.pre) (findClass_of_methodNamed B.named) B.notSynchronized (lv_entry [.int x0, .int x1] (n := 3) (Nat.le_of_ble_eq_true rfl)) h
theorem qd_X3_firstHit : yX3_firstHit.cls ≠ "java/lang/invoke/MethodHandle" ∧ yX3_firstHit.cls ≠ "java/lang/invoke/VarHandle" ∧ (parseMethodDescriptor yX3_firstHit.desc).map (fun d => d.parameters.length) = some 2 := by decide +kernel
abbrev wo_X4_lengthOf : List Cond := .code yX4_lengthOf cX4_lengthOf 2 (some .int) :: wsL_law
set_option maxHeartbeats 4000000 in
set_option maxRecDepth 100000 in
theorem core_X4_lengthOf {N : Nat} (x0 : Int32) {p : Program} {l : Launch} {e : Env} {s : State} {m : MethodId} {args : Array Value} {below : List Frame} {meth : Method} {c : Code} {ls : Array Slot} (hx : p.tables.exec = Jvm.exec) (hb : c.code = cX4_lengthOf) (hml : c.maxLocals = 2) (hr : meth.sig.returnType = some .int) (hts : ∀ w ∈ wo_X4_lengthOf, w.before args s = true) (hown : s.vm.findClass RX4 = some m.cls) (hlocks : meth.locks = false) (hl : lv_has ls 2 [(0, .int x0)]) {o : Int32} (h : f_X4_lengthOf N x0 = some o) : gRi p l e wo_X4_lengthOf 0 s m args below meth c o (F0 m 0 ls []) := by
  unfold f_X4_lengthOf at h
  have J22 : ∀ (x1 : Int32) (ls : Array Slot) (hl : lv_has ls 2 [(1, .int x1)]) (h : f_X4_lengthOf_22 N x1 = some o), gRi p l e wo_X4_lengthOf 0 s m args below meth c o (F0 m 22 ls []) := by
    intro x1 ls hl h
    unfold f_X4_lengthOf_22 at h
    refine lv_iload_n hx hb dX4_lengthOf_22 rfl (lv_at hl 0 rfl) ?_
    exact W.iret (v := x1) hx hb hr (fun t ht hW => ⟨_, rfl, Option.some.inj h, ht⟩) (fun q hq => by cases hq) dX4_lengthOf_23
  have L2 : ∀ (n2 : Nat) (x0 : Int32) (x1 : Int32) (ls : Array Slot) (hl : lv_has ls 2 [(0, .int x0), (1, .int x1)]) (h : f_X4_lengthOf_2 N n2 x0 x1 = some o), gRi p l e wo_X4_lengthOf 0 s m args below meth c o (F0 m 2 ls []) := by
    intro n2
    induction n2 with
    | zero => intro x0 x1 ls hl h; cases (show (none : Option (Int32)) = some o from h)
    | succ n2 ih2 =>
      intro x0 x1 ls hl h
      rw [f_X4_lengthOf_2] at h
      refine lv_iload_n hx hb dX4_lengthOf_2 rfl (lv_at hl 1 rfl) ?_
      refine lv_bipush (v := 6) hx hb dX4_lengthOf_3 (by decide) ?_
      refine lv_icmp_ge (tgt := 22) hx hb dX4_lengthOf_5 (by decide) (fun c1 => ?_) (fun c1 => ?_)
      · replace h := (if_pos c1).symm.trans h
        exact J22 x1 ls (lv_sub hl [1] rfl) h
      · replace h := (if_neg c1).symm.trans h
        refine lv_iload_n hx hb dX4_lengthOf_8 rfl (lv_at hl 0 rfl) ?_
        refine lv_iload_n hx hb dX4_lengthOf_9 rfl (lv_at hl 1 rfl) ?_
        refine lv_iconst (v := 1) hx hb dX4_lengthOf_10 (by decide) ?_
        refine lv_iadd hx hb dX4_lengthOf_11 ?_
        refine lv_ishr hx hb dX4_lengthOf_12 ?_
        refine lv_if_eq (tgt := 22) hx hb dX4_lengthOf_13 (by decide) (fun c2 => ?_) (fun c2 => ?_)
        · replace h := (if_pos c2).symm.trans h
          exact J22 x1 ls (lv_sub hl [1] rfl) h
        · replace h := (if_neg c2).symm.trans h
          refine lv_iinc (v := (x1 + 1)) (lv' := [(1, .int (x1 + 1)), (0, .int x0)]) hx hb dX4_lengthOf_16 hl (k := 1) rfl rfl (by decide) rfl (fun ls hl => ?_)
          refine lv_goto (tgt := 2) hx hb dX4_lengthOf_19 (by decide) ?_
          exact ih2 x0 (x1 + 1) ls (lv_sub hl [1, 0] rfl) h
  refine lv_iconst (v := 0) hx hb dX4_lengthOf_0 (by decide) ?_
  refine lv_istore_n (lv' := [(1, .int 0), (0, .int x0)]) hx hb dX4_lengthOf_1 rfl hl (by decide) rfl (fun ls hl => ?_)
  exact L2 N x0 0 ls (lv_sub hl [1, 0] rfl) h
set_option maxHeartbeats 4000000 in
set_option maxRecDepth 100000 in
theorem c_X4_lengthOf {N : Nat} (l : Launch) (x0 : Int32) {o : Int32} (h : f_X4_lengthOf N x0 = some o) : mPi l yX4_lengthOf wo_X4_lengthOf 0 [.int x0] o := by
  refine Met.ofW (cc := cX4_lengthOf) (maxL := 2) (ret := some .int) (by decide) rfl ?_
  intro p e s m args below meth c s₁ B hml hv
  obtain ⟨rfl, -⟩ := hv
  rw [lg_entry_eq]
  exact core_X4_lengthOf x0 B.exec B.bytes hml B.returns (atoms_spec (ws := wo_X4_lengthOf) B.pre) (findClass_of_methodNamed B.named) B.notSynchronized (lv_entry [.int x0] (n := 2) (Nat.le_of_ble_eq_true rfl)) h
theorem qd_X4_lengthOf : yX4_lengthOf.cls ≠ "java/lang/invoke/MethodHandle" ∧ yX4_lengthOf.cls ≠ "java/lang/invoke/VarHandle" ∧ (parseMethodDescriptor yX4_lengthOf.desc).map (fun d => d.parameters.length) = some 1 := by decide +kernel
abbrev wo_X4_timesIn : List Cond := .code yX4_timesIn cX4_timesIn 7 (some .int) :: wsL_law
set_option maxHeartbeats 4000000 in
set_option maxRecDepth 100000 in
theorem core_X4_timesIn {N : Nat} (x0 : Int32) (x1 : Int32) (x2 : Int32) {p : Program} {l : Launch} {e : Env} {s : State} {m : MethodId} {args : Array Value} {below : List Frame} {meth : Method} {c : Code} {ls : Array Slot} (hx : p.tables.exec = Jvm.exec) (hb : c.code = cX4_timesIn) (hml : c.maxLocals = 7) (hr : meth.sig.returnType = some .int) (hts : ∀ w ∈ wo_X4_timesIn, w.before args s = true) (hown : s.vm.findClass RX4 = some m.cls) (hlocks : meth.locks = false) (hl : lv_has ls 7 [(0, .int x0), (1, .int x1), (2, .int x2)]) {o : Int32} (h : f_X4_timesIn N x0 x1 x2 = some o) : gRi p l e wo_X4_timesIn 1 s m args below meth c o (F0 m 0 ls []) := by
  unfold f_X4_timesIn at h
  have L26 : ∀ (n26 : Nat) (x0 : Int32) (x2 : Int32) (x3 : Int32) (x4 : Int32) (x5 : Int32) (ls : Array Slot) (hl : lv_has ls 7 [(0, .int x0), (2, .int x2), (3, .int x3), (4, .int x4), (5, .int x5)]) (h : f_X4_timesIn_26 N n26 x0 x2 x3 x4 x5 = some o), gRi p l e wo_X4_timesIn 1 s m args below meth c o (F0 m 26 ls []) := by
    intro n26
    induction n26 with
    | zero => intro x0 x2 x3 x4 x5 ls hl h; cases (show (none : Option (Int32)) = some o from h)
    | succ n26 ih26 =>
      have J59 : ∀ (x0 : Int32) (x2 : Int32) (x3 : Int32) (x5 : Int32) (s0 : Int32) (s1 : Int32) (ls : Array Slot) (hl : lv_has ls 7 [(0, .int x0), (2, .int x2), (3, .int x3), (5, .int x5)]) (h : f_X4_timesIn_59 N (fun y0 y1 y2 y3 y4 => f_X4_timesIn_26 N n26 y0 y1 y2 y3 y4) x0 x2 x3 x5 s0 s1 = some o), gRi p l e wo_X4_timesIn 1 s m args below meth c o (F0 m 59 ls [.int s1, .int s0]) := by
        intro x0 x2 x3 x5 s0 s1 ls hl h
        unfold f_X4_timesIn_59 at h
        refine lv_iand hx hb dX4_timesIn_59 ?_
        refine lv_istore (lv' := [(4, .int (s0 &&& s1)), (0, .int x0), (2, .int x2), (3, .int x3), (5, .int x5)]) hx hb dX4_timesIn_60 hl (by decide) rfl (fun ls hl => ?_)
        refine lv_iinc (v := (x5 + 1)) (lv' := [(5, .int (x5 + 1)), (4, .int (s0 &&& s1)), (0, .int x0), (2, .int x2), (3, .int x3)]) hx hb dX4_timesIn_62 hl (k := 4) rfl rfl (by decide) rfl (fun ls hl => ?_)
        refine lv_goto (tgt := 26) hx hb dX4_timesIn_65 (by decide) ?_
        exact ih26 x0 x2 x3 (s0 &&& s1) (x5 + 1) ls (lv_sub hl [2, 3, 4, 1, 0] rfl) h
      intro x0 x2 x3 x4 x5 ls hl h
      rw [f_X4_timesIn_26] at h
      refine lv_iload hx hb dX4_timesIn_26 (lv_at hl 4 rfl) ?_
      refine lv_iload_n hx hb dX4_timesIn_28 rfl (lv_at hl 2 rfl) ?_
      refine lv_icmp_ge (tgt := 68) hx hb dX4_timesIn_29 (by decide) (fun c1 => ?_) (fun c1 => ?_)
      · replace h := (if_pos c1).symm.trans h
        refine lv_iload hx hb dX4_timesIn_68 (lv_at hl 3 rfl) ?_
        obtain ⟨o2, eq3, h⟩ := bnd_some h
        refine kPi (rest := []) ⟨hx, hb, hml, hown, hts⟩ (c_J6_bitCount_0f7a4 l x4 eq3) (va_cwS 1 hts (gAS wm_232 wm_210 wm_211 wm_212) rfl rfl rfl qd_J6_bitCount_0f7a4 ⟨Nat.le_of_ble_eq_true rfl, Nat.le_of_ble_eq_true rfl⟩) rfl hl.1 rfl (Nat.le_of_ble_eq_true rfl) dX4_timesIn_70 ⟨Nat.zero_le _, Nat.zero_le _⟩ ?_
        exact W.iret (v := o2) hx hb hr (fun t ht hW => ⟨_, rfl, Option.some.inj h, ht⟩) (fun q hq => by cases hq) dX4_timesIn_73
      · replace h := (if_neg c1).symm.trans h
        refine lv_iload_n hx hb dX4_timesIn_32 rfl (lv_at hl 1 rfl) ?_
        refine lv_iload hx hb dX4_timesIn_33 (lv_at hl 4 rfl) ?_
        refine lv_ishr hx hb dX4_timesIn_35 ?_
        refine lv_istore (lv' := [(6, .int (x2 >>> (x5 &&& 31))), (0, .int x0), (2, .int x2), (3, .int x3), (4, .int x4), (5, .int x5)]) hx hb dX4_timesIn_36 hl (by decide) rfl (fun ls hl => ?_)
        refine lv_iload hx hb dX4_timesIn_38 (lv_at hl 4 rfl) ?_
        refine lv_iload_n hx hb dX4_timesIn_40 rfl (lv_at hl 1 rfl) ?_
        refine lv_iload hx hb dX4_timesIn_41 (lv_at hl 5 rfl) ?_
        refine lv_ishr hx hb dX4_timesIn_43 ?_
        refine lv_iconst (v := 1) hx hb dX4_timesIn_44 (by decide) ?_
        refine lv_iand hx hb dX4_timesIn_45 ?_
        refine lv_iconst (v := 1) hx hb dX4_timesIn_46 (by decide) ?_
        refine lv_icmp_ne (tgt := 55) hx hb dX4_timesIn_47 (by decide) (fun c4 => ?_) (fun c4 => ?_)
        · replace h := (if_neg c4).symm.trans h
          refine lv_iload hx hb dX4_timesIn_55 (lv_at hl 0 rfl) ?_
          refine lv_iconst (v := (-1)) hx hb dX4_timesIn_57 (by decide) ?_
          refine lv_ixor hx hb dX4_timesIn_58 ?_
          exact J59 x0 x2 x3 x5 x4 ((x2 >>> (x5 &&& 31)) ^^^ (-1)) ls (lv_sub hl [1, 2, 3, 5] rfl) h
        · replace h := (if_pos c4).symm.trans h
          refine lv_iload hx hb dX4_timesIn_50 (lv_at hl 0 rfl) ?_
          refine lv_goto (tgt := 59) hx hb dX4_timesIn_52 (by decide) ?_
          exact J59 x0 x2 x3 x5 x4 (x2 >>> (x5 &&& 31)) ls (lv_sub hl [1, 2, 3, 5] rfl) h
  refine lv_iload_n hx hb dX4_timesIn_0 rfl (lv_at hl 0 rfl) ?_
  obtain ⟨o5, eq6, h⟩ := bnd_some h
  refine kPi (rest := []) ⟨hx, hb, hml, hown, hts⟩ (c_X4_lengthOf l x0 eq6) (va_cwS 1 hts (gAS wm_229 wm_230 wm_227 wm_231) rfl rfl rfl qd_X4_lengthOf ⟨Nat.le_of_ble_eq_true rfl, Nat.le_of_ble_eq_true rfl⟩) rfl hl.1 rfl (Nat.le_of_ble_eq_true rfl) dX4_timesIn_1 ⟨Nat.zero_le _, Nat.zero_le _⟩ ?_
  refine lv_istore_n (lv' := [(3, .int o5), (0, .int x0), (1, .int x1), (2, .int x2)]) hx hb dX4_timesIn_4 rfl hl (by decide) rfl (fun ls hl => ?_)
  refine lv_iload_n hx hb dX4_timesIn_5 rfl (lv_at hl 0 rfl) ?_
  refine lv_iload_n hx hb dX4_timesIn_6 rfl (lv_at hl 2 rfl) ?_
  refine lv_icmp_le (tgt := 12) hx hb dX4_timesIn_7 (by decide) (fun c7 => ?_) (fun c7 => ?_)
  · replace h := (if_pos c7).symm.trans h
    refine lv_iconst (v := 1) hx hb dX4_timesIn_12 (by decide) ?_
    refine lv_iload_n hx hb dX4_timesIn_13 rfl (lv_at hl 2 rfl) ?_
    refine lv_iload_n hx hb dX4_timesIn_14 rfl (lv_at hl 0 rfl) ?_
    refine lv_isub hx hb dX4_timesIn_15 ?_
    refine lv_iconst (v := 1) hx hb dX4_timesIn_16 (by decide) ?_
    refine lv_iadd hx hb dX4_timesIn_17 ?_
    refine lv_ishl hx hb dX4_timesIn_18 ?_
    refine lv_iconst (v := 1) hx hb dX4_timesIn_19 (by decide) ?_
    refine lv_isub hx hb dX4_timesIn_20 ?_
    refine lv_istore (lv' := [(4, .int (((1 : Int32) <<< (((x1 - o5) + 1) &&& 31)) - 1)), (3, .int o5), (0, .int x0), (1, .int x1), (2, .int x2)]) hx hb dX4_timesIn_21 hl (by decide) rfl (fun ls hl => ?_)
    refine lv_iconst (v := 0) hx hb dX4_timesIn_23 (by decide) ?_
    refine lv_istore (lv' := [(5, .int 0), (4, .int (((1 : Int32) <<< (((x1 - o5) + 1) &&& 31)) - 1)), (3, .int o5), (0, .int x0), (1, .int x1), (2, .int x2)]) hx hb dX4_timesIn_24 hl (by decide) rfl (fun ls hl => ?_)
    exact L26 N x0 x2 o5 (((1 : Int32) <<< (((x1 - o5) + 1) &&& 31)) - 1) 0 ls (lv_sub hl [3, 5, 2, 1, 0] rfl) h
  · replace h := (if_neg c7).symm.trans h
    refine lv_iconst (v := 0) hx hb dX4_timesIn_10 (by decide) ?_
    exact W.iret (v := 0) hx hb hr (fun t ht hW => ⟨_, rfl, Option.some.inj h, ht⟩) (fun q hq => by cases hq) dX4_timesIn_11
set_option maxHeartbeats 4000000 in
set_option maxRecDepth 100000 in
theorem c_X4_timesIn {N : Nat} (l : Launch) (x0 : Int32) (x1 : Int32) (x2 : Int32) {o : Int32} (h : f_X4_timesIn N x0 x1 x2 = some o) : mPi l yX4_timesIn wo_X4_timesIn 1 [.int x0, .int x1, .int x2] o := by
  refine Met.ofW (cc := cX4_timesIn) (maxL := 7) (ret := some .int) (by decide) rfl ?_
  intro p e s m args below meth c s₁ B hml hv
  obtain ⟨rfl, -⟩ := hv
  rw [lg_entry_eq]
  exact core_X4_timesIn x0 x1 x2 B.exec B.bytes hml B.returns (atoms_spec (ws := wo_X4_timesIn) B.pre) (findClass_of_methodNamed B.named) B.notSynchronized (lv_entry [.int x0, .int x1, .int x2] (n := 7) (Nat.le_of_ble_eq_true rfl)) h
theorem qd_X4_timesIn : yX4_timesIn.cls ≠ "java/lang/invoke/MethodHandle" ∧ yX4_timesIn.cls ≠ "java/lang/invoke/VarHandle" ∧ (parseMethodDescriptor yX4_timesIn.desc).map (fun d => d.parameters.length) = some 3 := by decide +kernel
abbrev wo_X4_standsIn : List Cond := .code yX4_standsIn cX4_standsIn 3 (some .boolean) :: wsL_law
set_option maxHeartbeats 4000000 in
set_option maxRecDepth 100000 in
theorem core_X4_standsIn {N : Nat} (x0 : Int32) (x1 : Int32) {p : Program} {l : Launch} {e : Env} {s : State} {m : MethodId} {args : Array Value} {below : List Frame} {meth : Method} {c : Code} {ls : Array Slot} (hx : p.tables.exec = Jvm.exec) (hb : c.code = cX4_standsIn) (hml : c.maxLocals = 3) (hr : meth.sig.returnType = some .boolean) (hts : ∀ w ∈ wo_X4_standsIn, w.before args s = true) (hown : s.vm.findClass RX4 = some m.cls) (hlocks : meth.locks = false) (hl : lv_has ls 3 [(0, .int x0), (1, .int x1)]) {o : Int32} (h : f_X4_standsIn N x0 x1 = some o) : gRi p l e wo_X4_standsIn 2 s m args below meth c o (F0 m 0 ls []) := by
  unfold f_X4_standsIn at h
  refine lv_iload_n hx hb dX4_standsIn_0 rfl (lv_at hl 1 rfl) ?_
  obtain ⟨o1, eq2, h⟩ := bnd_some h
  refine kPi (rest := []) ⟨hx, hb, hml, hown, hts⟩ (c_X4_lengthOf l x1 eq2) (va_cwS 1 hts (gAS wm_229 wm_230 wm_227 wm_231) rfl rfl rfl qd_X4_lengthOf ⟨Nat.le_of_ble_eq_true rfl, Nat.le_of_ble_eq_true rfl⟩) rfl hl.1 rfl (Nat.le_of_ble_eq_true rfl) dX4_standsIn_1 ⟨Nat.zero_le _, Nat.zero_le _⟩ ?_
  refine lv_istore_n (lv' := [(2, .int o1), (0, .int x0), (1, .int x1)]) hx hb dX4_standsIn_4 rfl hl (by decide) rfl (fun ls hl => ?_)
  refine lv_iload_n hx hb dX4_standsIn_5 rfl (lv_at hl 1 rfl) ?_
  refine lv_iload_n hx hb dX4_standsIn_6 rfl (lv_at hl 0 rfl) ?_
  refine lv_iload_n hx hb dX4_standsIn_7 rfl (lv_at hl 2 rfl) ?_
  refine lv_iconst (v := 1) hx hb dX4_standsIn_8 (by decide) ?_
  refine lv_iload_n hx hb dX4_standsIn_9 rfl (lv_at hl 0 rfl) ?_
  refine lv_ishl hx hb dX4_standsIn_10 ?_
  refine lv_iconst (v := 1) hx hb dX4_standsIn_11 (by decide) ?_
  refine lv_isub hx hb dX4_standsIn_12 ?_
  refine lv_iand hx hb dX4_standsIn_13 ?_
  obtain ⟨o3, eq4, h⟩ := bnd_some h
  refine kPi (rest := []) ⟨hx, hb, hml, hown, hts⟩ (c_X4_timesIn l x0 o1 (x1 &&& (((1 : Int32) <<< (o1 &&& 31)) - 1)) eq4) (va_cwS 3 hts (gAS wm_710 wm_226 wm_227 wm_228) rfl rfl rfl qd_X4_timesIn ⟨Nat.le_of_ble_eq_true rfl, Nat.le_of_ble_eq_true rfl⟩) rfl hl.1 rfl (Nat.le_of_ble_eq_true rfl) dX4_standsIn_14 ⟨Nat.zero_le _, Nat.zero_le _⟩ ?_
  refine lv_if_le (tgt := 24) hx hb dX4_standsIn_17 (by decide) (fun c5 => ?_) (fun c5 => ?_)
  · replace h := (if_pos c5).symm.trans h
    refine lv_iconst (v := 0) hx hb dX4_standsIn_24 (by decide) ?_
    exact W.zret (v := 0) hx hb hr rfl (fun t ht hW => ⟨_, rfl, Option.some.inj h, ht⟩) (fun q hq => by cases hq) dX4_standsIn_25
  · replace h := (if_neg c5).symm.trans h
    refine lv_iconst (v := 1) hx hb dX4_standsIn_20 (by decide) ?_
    refine lv_goto (tgt := 25) hx hb dX4_standsIn_21 (by decide) ?_
    exact W.zret (v := 1) hx hb hr rfl (fun t ht hW => ⟨_, rfl, Option.some.inj h, ht⟩) (fun q hq => by cases hq) dX4_standsIn_25
set_option maxHeartbeats 4000000 in
set_option maxRecDepth 100000 in
theorem c_X4_standsIn {N : Nat} (l : Launch) (x0 : Int32) (x1 : Int32) {o : Int32} (h : f_X4_standsIn N x0 x1 = some o) : mPi l yX4_standsIn wo_X4_standsIn 2 [.int x0, .int x1] o := by
  refine Met.ofW (cc := cX4_standsIn) (maxL := 3) (ret := some .boolean) (by decide) rfl ?_
  intro p e s m args below meth c s₁ B hml hv
  obtain ⟨rfl, -⟩ := hv
  rw [lg_entry_eq]
  exact core_X4_standsIn x0 x1 B.exec B.bytes hml B.returns (atoms_spec (ws := wo_X4_standsIn) B.pre) (findClass_of_methodNamed B.named) B.notSynchronized (lv_entry [.int x0, .int x1] (n := 3) (Nat.le_of_ble_eq_true rfl)) h
theorem qd_X4_standsIn : yX4_standsIn.cls ≠ "java/lang/invoke/MethodHandle" ∧ yX4_standsIn.cls ≠ "java/lang/invoke/VarHandle" ∧ (parseMethodDescriptor yX4_standsIn.desc).map (fun d => d.parameters.length) = some 2 := by decide +kernel
abbrev wo_X4_chanceParts : List Cond := .code yX4_chanceParts cX4_chanceParts 3 (some .long) :: wsL_law
set_option maxHeartbeats 4000000 in
set_option maxRecDepth 100000 in
theorem core_X4_chanceParts {N : Nat} (x0 : Int32) (x1 : Int32) (x2 : Int32) {p : Program} {l : Launch} {e : Env} {s : State} {m : MethodId} {args : Array Value} {below : List Frame} {meth : Method} {c : Code} {ls : Array Slot} (hx : p.tables.exec = Jvm.exec) (hb : c.code = cX4_chanceParts) (hml : c.maxLocals = 3) (hr : meth.sig.returnType = some .long) (hts : ∀ w ∈ wo_X4_chanceParts, w.before args s = true) (hown : s.vm.findClass RX4 = some m.cls) (hlocks : meth.locks = false) (hl : lv_has ls 3 [(0, .int x0), (1, .int x1), (2, .int x2)]) {o : Int64} (h : f_X4_chanceParts N x0 x1 x2 = some o) : gRl p l e wo_X4_chanceParts 1 s m args below meth c o (F0 m 0 ls []) := by
  unfold f_X4_chanceParts at h
  refine lv_iload_n hx hb dX4_chanceParts_0 rfl (lv_at hl 0 rfl) ?_
  refine lv_i2l (v := x0.toInt64) hx hb dX4_chanceParts_1 rfl ?_
  refine lv_iload_n hx hb dX4_chanceParts_2 rfl (lv_at hl 1 rfl) ?_
  obtain ⟨o1, eq2, h⟩ := bnd_some h
  refine kPl (rest := []) ⟨hx, hb, hml, hown, hts⟩ (c_X1_power l x0.toInt64 x1 eq2) (va_cwS 2 hts (gAS wm_677 wm_509 wm_510 wm_511) rfl rfl rfl qd_X1_power ⟨Nat.le_of_ble_eq_true rfl, Nat.le_of_ble_eq_true rfl⟩) rfl hl.1 rfl (Nat.le_of_ble_eq_true rfl) dX4_chanceParts_3 ⟨Nat.zero_le _, Nat.zero_le _⟩ ?_
  refine lv_bipush (v := 16) hx hb dX4_chanceParts_6 (by decide) ?_
  refine lv_iload_n hx hb dX4_chanceParts_8 rfl (lv_at hl 0 rfl) ?_
  refine lv_isub hx hb dX4_chanceParts_9 ?_
  refine lv_i2l (v := ((16 : Int32) - x0).toInt64) hx hb dX4_chanceParts_10 rfl ?_
  refine lv_iload_n hx hb dX4_chanceParts_11 rfl (lv_at hl 2 rfl) ?_
  obtain ⟨o3, eq4, h⟩ := bnd_some h
  refine kPl (rest := [.long o1]) ⟨hx, hb, hml, hown, hts⟩ (c_X1_power l (((16 : Int32) - x0).toInt64) x2 eq4) (va_cwS 2 hts (gAS wm_677 wm_509 wm_510 wm_511) rfl rfl rfl qd_X1_power ⟨Nat.le_of_ble_eq_true rfl, Nat.le_of_ble_eq_true rfl⟩) rfl hl.1 rfl (Nat.le_of_ble_eq_true rfl) dX4_chanceParts_12 ⟨Nat.zero_le _, Nat.zero_le _⟩ ?_
  refine lv_lmul hx hb dX4_chanceParts_15 ?_
  exact W.lret (v := (o1 * o3)) hx hb hr (fun t ht hW => ⟨_, rfl, Option.some.inj h, ht⟩) (fun q hq => by cases hq) dX4_chanceParts_16
set_option maxHeartbeats 4000000 in
set_option maxRecDepth 100000 in
theorem c_X4_chanceParts {N : Nat} (l : Launch) (x0 : Int32) (x1 : Int32) (x2 : Int32) {o : Int64} (h : f_X4_chanceParts N x0 x1 x2 = some o) : mPl l yX4_chanceParts wo_X4_chanceParts 1 [.int x0, .int x1, .int x2] o := by
  refine Met.ofW (cc := cX4_chanceParts) (maxL := 3) (ret := some .long) (by decide) rfl ?_
  intro p e s m args below meth c s₁ B hml hv
  obtain ⟨rfl, -⟩ := hv
  rw [lg_entry_eq]
  exact core_X4_chanceParts x0 x1 x2 B.exec B.bytes hml B.returns (atoms_spec (ws := wo_X4_chanceParts) B.pre) (findClass_of_methodNamed B.named) B.notSynchronized (lv_entry [.int x0, .int x1, .int x2] (n := 3) (Nat.le_of_ble_eq_true rfl)) h
theorem qd_X4_chanceParts : yX4_chanceParts.cls ≠ "java/lang/invoke/MethodHandle" ∧ yX4_chanceParts.cls ≠ "java/lang/invoke/VarHandle" ∧ (parseMethodDescriptor yX4_chanceParts.desc).map (fun d => d.parameters.length) = some 3 := by decide +kernel
abbrev wo_X4_leadUnit : List Cond := .code yX4_leadUnit cX4_leadUnit 1 (some .long) :: wsL_law
set_option maxHeartbeats 4000000 in
set_option maxRecDepth 100000 in
theorem core_X4_leadUnit {N : Nat} (x0 : Int32) {p : Program} {l : Launch} {e : Env} {s : State} {m : MethodId} {args : Array Value} {below : List Frame} {meth : Method} {c : Code} {ls : Array Slot} (hx : p.tables.exec = Jvm.exec) (hb : c.code = cX4_leadUnit) (hml : c.maxLocals = 1) (hr : meth.sig.returnType = some .long) (hts : ∀ w ∈ wo_X4_leadUnit, w.before args s = true) (hown : s.vm.findClass RX4 = some m.cls) (hlocks : meth.locks = false) (hl : lv_has ls 1 [(0, .int x0)]) {o : Int64} (h : f_X4_leadUnit N x0 = some o) : gRl p l e wo_X4_leadUnit 2 s m args below meth c o (F0 m 0 ls []) := by
  unfold f_X4_leadUnit at h
  refine lv_iload_n hx hb dX4_leadUnit_0 rfl (lv_at hl 0 rfl) ?_
  refine lv_bipush (v := 6) hx hb dX4_leadUnit_1 (by decide) ?_
  refine lv_bipush (v := 6) hx hb dX4_leadUnit_3 (by decide) ?_
  obtain ⟨o1, eq2, h⟩ := bnd_some h
  refine kPl (rest := []) ⟨hx, hb, hml, hown, hts⟩ (c_X4_chanceParts l x0 6 6 eq2) (va_cwS 3 hts (gAS wm_674 wm_675 wm_227 wm_676) rfl rfl rfl qd_X4_chanceParts ⟨Nat.le_of_ble_eq_true rfl, Nat.le_of_ble_eq_true rfl⟩) rfl hl.1 rfl (Nat.le_of_ble_eq_true rfl) dX4_leadUnit_5 ⟨Nat.zero_le _, Nat.zero_le _⟩ ?_
  exact W.lret (v := o1) hx hb hr (fun t ht hW => ⟨_, rfl, Option.some.inj h, ht⟩) (fun q hq => by cases hq) dX4_leadUnit_8
set_option maxHeartbeats 4000000 in
set_option maxRecDepth 100000 in
theorem c_X4_leadUnit {N : Nat} (l : Launch) (x0 : Int32) {o : Int64} (h : f_X4_leadUnit N x0 = some o) : mPl l yX4_leadUnit wo_X4_leadUnit 2 [.int x0] o := by
  refine Met.ofW (cc := cX4_leadUnit) (maxL := 1) (ret := some .long) (by decide) rfl ?_
  intro p e s m args below meth c s₁ B hml hv
  obtain ⟨rfl, -⟩ := hv
  rw [lg_entry_eq]
  exact core_X4_leadUnit x0 B.exec B.bytes hml B.returns (atoms_spec (ws := wo_X4_leadUnit) B.pre) (findClass_of_methodNamed B.named) B.notSynchronized (lv_entry [.int x0] (n := 1) (Nat.le_of_ble_eq_true rfl)) h
theorem qd_X4_leadUnit : yX4_leadUnit.cls ≠ "java/lang/invoke/MethodHandle" ∧ yX4_leadUnit.cls ≠ "java/lang/invoke/VarHandle" ∧ (parseMethodDescriptor yX4_leadUnit.desc).map (fun d => d.parameters.length) = some 1 := by decide +kernel
abbrev wo_X4_lead : List Cond := .code yX4_lead cX4_lead 14 (some .long) :: wsL_law
set_option maxHeartbeats 4000000 in
set_option maxRecDepth 100000 in
theorem core_X4_lead {N : Nat} (x0 : Int32) (x1 : Int32) (x2 : Int32) {p : Program} {l : Launch} {e : Env} {s : State} {m : MethodId} {args : Array Value} {below : List Frame} {meth : Method} {c : Code} {ls : Array Slot} (hx : p.tables.exec = Jvm.exec) (hb : c.code = cX4_lead) (hml : c.maxLocals = 14) (hr : meth.sig.returnType = some .long) (hts : ∀ w ∈ wo_X4_lead, w.before args s = true) (hown : s.vm.findClass RX4 = some m.cls) (hlocks : meth.locks = false) (hl : lv_has ls 14 [(0, .int x0), (1, .int x1), (2, .int x2)]) {o : Int64} (h : f_X4_lead N x0 x1 x2 = some o) : gRl p l e wo_X4_lead 2 s m args below meth c o (F0 m 0 ls []) := by
  have kc28 := hts _ (List.mem_cons_of_mem _ wm_673)
  unfold f_X4_lead at h
  have J115 : ∀ (x5 : Int64) (ls : Array Slot) (hl : lv_has ls 14 [(5, .long x5)]) (h : f_X4_lead_115 N x5 = some o), gRl p l e wo_X4_lead 2 s m args below meth c o (F0 m 115 ls []) := by
    intro x5 ls hl h
    unfold f_X4_lead_115 at h
    refine lv_lload hx hb dX4_lead_115 (lv_at hl 0 rfl) ?_
    exact W.lret (v := x5) hx hb hr (fun t ht hW => ⟨_, rfl, Option.some.inj h, ht⟩) (fun q hq => by cases hq) dX4_lead_117
  have L17 : ∀ (n17 : Nat) (x0 : Int32) (x1 : Int32) (x2 : Int32) (x3 : Int32) (x4 : Int32) (x5 : Int64) (x7 : Int32) (ls : Array Slot) (hl : lv_has ls 14 [(0, .int x0), (1, .int x1), (2, .int x2), (3, .int x3), (4, .int x4), (5, .long x5), (7, .int x7)]) (h : f_X4_lead_17 N n17 x0 x1 x2 x3 x4 x5 x7 = some o), gRl p l e wo_X4_lead 2 s m args below meth c o (F0 m 17 ls []) := by
    intro n17
    induction n17 with
    | zero => intro x0 x1 x2 x3 x4 x5 x7 ls hl h; cases (show (none : Option (Int64)) = some o from h)
    | succ n17 ih17 =>
      have J109 : ∀ (x0 : Int32) (x1 : Int32) (x2 : Int32) (x3 : Int32) (x4 : Int32) (x5 : Int64) (x7 : Int32) (ls : Array Slot) (hl : lv_has ls 14 [(0, .int x0), (1, .int x1), (2, .int x2), (3, .int x3), (4, .int x4), (5, .long x5), (7, .int x7)]) (h : f_X4_lead_109 N (fun y0 y1 y2 y3 y4 y5 y6 => f_X4_lead_17 N n17 y0 y1 y2 y3 y4 y5 y6) x0 x1 x2 x3 x4 x5 x7 = some o), gRl p l e wo_X4_lead 2 s m args below meth c o (F0 m 109 ls []) := by
        intro x0 x1 x2 x3 x4 x5 x7 ls hl h
        unfold f_X4_lead_109 at h
        refine lv_iinc (v := (x7 + 1)) (lv' := [(7, .int (x7 + 1)), (0, .int x0), (1, .int x1), (2, .int x2), (3, .int x3), (4, .int x4), (5, .long x5)]) hx hb dX4_lead_109 hl (k := 6) rfl rfl (by decide) rfl (fun ls hl => ?_)
        refine lv_goto (tgt := 17) hx hb dX4_lead_112 (by decide) ?_
        exact ih17 x0 x1 x2 x3 x4 x5 (x7 + 1) ls (lv_sub hl [1, 2, 3, 4, 5, 6, 0] rfl) h
      intro x0 x1 x2 x3 x4 x5 x7 ls hl h
      rw [f_X4_lead_17] at h
      refine lv_iload hx hb dX4_lead_17 (lv_at hl 6 rfl) ?_
      refine lv_iload_n hx hb dX4_lead_19 rfl (lv_at hl 3 rfl) ?_
      refine lv_icmp_gt (tgt := 115) hx hb dX4_lead_20 (by decide) (fun c1 => ?_) (fun c1 => ?_)
      · replace h := (if_pos c1).symm.trans h
        exact J115 x5 ls (lv_sub hl [5] rfl) h
      · replace h := (if_neg c1).symm.trans h
        refine lv_iload hx hb dX4_lead_23 (lv_at hl 6 rfl) ?_
        refine lv_iload hx hb dX4_lead_25 (lv_at hl 4 rfl) ?_
        refine lv_icmp_gt (tgt := 115) hx hb dX4_lead_27 (by decide) (fun c2 => ?_) (fun c2 => ?_)
        · replace h := (if_pos c2).symm.trans h
          exact J115 x5 ls (lv_sub hl [5] rfl) h
        · replace h := (if_neg c2).symm.trans h
          refine lv_iconst (v := 1) hx hb dX4_lead_30 (by decide) ?_
          refine lv_iload hx hb dX4_lead_31 (lv_at hl 6 rfl) ?_
          refine lv_ishl hx hb dX4_lead_33 ?_
          refine lv_iload_n hx hb dX4_lead_34 rfl (lv_at hl 0 rfl) ?_
          refine lv_iconst (v := 1) hx hb dX4_lead_35 (by decide) ?_
          refine lv_iload hx hb dX4_lead_36 (lv_at hl 6 rfl) ?_
          refine lv_ishl hx hb dX4_lead_38 ?_
          refine lv_iconst (v := 1) hx hb dX4_lead_39 (by decide) ?_
          refine lv_isub hx hb dX4_lead_40 ?_
          refine lv_iand hx hb dX4_lead_41 ?_
          refine lv_ior hx hb dX4_lead_42 ?_
          refine lv_istore (lv' := [(8, .int (((1 : Int32) <<< (x7 &&& 31)) ||| (x0 &&& (((1 : Int32) <<< (x7 &&& 31)) - 1)))), (0, .int x0), (1, .int x1), (2, .int x2), (3, .int x3), (4, .int x4), (5, .long x5), (7, .int x7)]) hx hb dX4_lead_43 hl (by decide) rfl (fun ls hl => ?_)
          refine lv_iload_n hx hb dX4_lead_45 rfl (lv_at hl 2 rfl) ?_
          refine lv_iload hx hb dX4_lead_46 (lv_at hl 5 rfl) ?_
          refine lv_iload hx hb dX4_lead_48 (lv_at hl 7 rfl) ?_
          refine lv_isub hx hb dX4_lead_50 ?_
          refine lv_ishr hx hb dX4_lead_51 ?_
          refine lv_istore (lv' := [(9, .int (x1 >>> ((x4 - x7) &&& 31))), (8, .int (((1 : Int32) <<< (x7 &&& 31)) ||| (x0 &&& (((1 : Int32) <<< (x7 &&& 31)) - 1)))), (0, .int x0), (1, .int x1), (2, .int x2), (3, .int x3), (4, .int x4), (5, .long x5), (7, .int x7)]) hx hb dX4_lead_52 hl (by decide) rfl (fun ls hl => ?_)
          refine lv_iload hx hb dX4_lead_54 (lv_at hl 1 rfl) ?_
          refine lv_iload hx hb dX4_lead_56 (lv_at hl 0 rfl) ?_
          refine lv_icmp_ne (tgt := 109) hx hb dX4_lead_58 (by decide) (fun c3 => ?_) (fun c3 => ?_)
          · replace h := (if_neg c3).symm.trans h
            exact J109 x0 x1 x2 x3 x4 x5 x7 ls (lv_sub hl [2, 3, 4, 5, 6, 7, 8] rfl) h
          · replace h := (if_pos c3).symm.trans h
            refine lv_iload hx hb dX4_lead_61 (lv_at hl 0 rfl) ?_
            obtain ⟨o4, eq5, h⟩ := bnd_some h
            refine kPi (rest := []) ⟨hx, hb, hml, hown, hts⟩ (c_J6_bitCount_0f7a4 l (x1 >>> ((x4 - x7) &&& 31)) eq5) (va_cwS 1 hts (gAS wm_232 wm_210 wm_211 wm_212) rfl rfl rfl qd_J6_bitCount_0f7a4 ⟨Nat.le_of_ble_eq_true rfl, Nat.le_of_ble_eq_true rfl⟩) rfl hl.1 rfl (Nat.le_of_ble_eq_true rfl) dX4_lead_63 ⟨Nat.zero_le _, Nat.zero_le _⟩ ?_
            refine lv_iconst (v := 1) hx hb dX4_lead_66 (by decide) ?_
            refine lv_isub hx hb dX4_lead_67 ?_
            refine lv_istore (lv' := [(10, .int (o4 - 1)), (9, .int (x1 >>> ((x4 - x7) &&& 31))), (8, .int (((1 : Int32) <<< (x7 &&& 31)) ||| (x0 &&& (((1 : Int32) <<< (x7 &&& 31)) - 1)))), (0, .int x0), (1, .int x1), (2, .int x2), (3, .int x3), (4, .int x4), (5, .long x5), (7, .int x7)]) hx hb dX4_lead_68 hl (by decide) rfl (fun ls hl => ?_)
            refine lv_iload hx hb dX4_lead_70 (lv_at hl 9 rfl) ?_
            refine lv_iload hx hb dX4_lead_72 (lv_at hl 0 rfl) ?_
            refine lv_isub hx hb dX4_lead_74 ?_
            refine lv_istore (lv' := [(11, .int (x7 - (o4 - 1))), (10, .int (o4 - 1)), (9, .int (x1 >>> ((x4 - x7) &&& 31))), (8, .int (((1 : Int32) <<< (x7 &&& 31)) ||| (x0 &&& (((1 : Int32) <<< (x7 &&& 31)) - 1)))), (0, .int x0), (1, .int x1), (2, .int x2), (3, .int x3), (4, .int x4), (5, .long x5), (7, .int x7)]) hx hb dX4_lead_75 hl (by decide) rfl (fun ls hl => ?_)
            refine lv_iload_n hx hb dX4_lead_77 rfl (lv_at hl 6 rfl) ?_
            refine lv_bipush (v := 6) hx hb dX4_lead_78 (by decide) ?_
            refine lv_iload hx hb dX4_lead_80 (lv_at hl 1 rfl) ?_
            refine lv_isub hx hb dX4_lead_82 ?_
            refine lv_bipush (v := 6) hx hb dX4_lead_83 (by decide) ?_
            refine lv_iload hx hb dX4_lead_85 (lv_at hl 0 rfl) ?_
            refine lv_isub hx hb dX4_lead_87 ?_
            obtain ⟨o6, eq7, h⟩ := bnd_some h
            refine kPl (rest := []) ⟨hx, hb, hml, hown, hts⟩ (c_X4_chanceParts l x2 ((6 : Int32) - (o4 - 1)) ((6 : Int32) - (x7 - (o4 - 1))) eq7) (va_cwS 3 hts (gAS wm_674 wm_675 wm_227 wm_676) rfl rfl rfl qd_X4_chanceParts ⟨Nat.le_of_ble_eq_true rfl, Nat.le_of_ble_eq_true rfl⟩) rfl hl.1 rfl (Nat.le_of_ble_eq_true rfl) dX4_lead_88 ⟨Nat.zero_le _, Nat.zero_le _⟩ ?_
            refine lv_lstore (lv' := [(12, .long o6), (11, .int (x7 - (o4 - 1))), (10, .int (o4 - 1)), (9, .int (x1 >>> ((x4 - x7) &&& 31))), (8, .int (((1 : Int32) <<< (x7 &&& 31)) ||| (x0 &&& (((1 : Int32) <<< (x7 &&& 31)) - 1)))), (0, .int x0), (1, .int x1), (2, .int x2), (3, .int x3), (4, .int x4), (5, .long x5), (7, .int x7)]) hx hb dX4_lead_91 hl (by decide) rfl (fun ls hl => ?_)
            refine lv_lload hx hb dX4_lead_93 (lv_at hl 10 rfl) ?_
            refine lv_ldc2 (v := 16) hx hb hown kc28 dX4_lead_95 ?_
            refine lv_iload hx hb dX4_lead_98 (lv_at hl 11 rfl) ?_
            obtain ⟨o8, eq9, h⟩ := bnd_some h
            refine kPl (rest := [.long x5]) ⟨hx, hb, hml, hown, hts⟩ (c_X1_power l 16 x7 eq9) (va_cwS 2 hts (gAS wm_677 wm_509 wm_510 wm_511) rfl rfl rfl qd_X1_power ⟨Nat.le_of_ble_eq_true rfl, Nat.le_of_ble_eq_true rfl⟩) rfl hl.1 rfl (Nat.le_of_ble_eq_true rfl) dX4_lead_100 ⟨Nat.zero_le _, Nat.zero_le _⟩ ?_
            refine lv_lload hx hb dX4_lead_103 (lv_at hl 0 rfl) ?_
            refine lv_lmul hx hb dX4_lead_105 ?_
            refine lv_ladd hx hb dX4_lead_106 ?_
            refine lv_lstore (lv' := [(5, .long (x5 + (o8 * o6))), (12, .long o6), (11, .int (x7 - (o4 - 1))), (10, .int (o4 - 1)), (9, .int (x1 >>> ((x4 - x7) &&& 31))), (8, .int (((1 : Int32) <<< (x7 &&& 31)) ||| (x0 &&& (((1 : Int32) <<< (x7 &&& 31)) - 1)))), (0, .int x0), (1, .int x1), (2, .int x2), (3, .int x3), (4, .int x4), (7, .int x7)]) hx hb dX4_lead_107 hl (by decide) rfl (fun ls hl => ?_)
            exact J109 x0 x1 x2 x3 x4 (x5 + (o8 * o6)) x7 ls (lv_sub hl [6, 7, 8, 9, 10, 0, 11] rfl) h
  refine lv_iload_n hx hb dX4_lead_0 rfl (lv_at hl 0 rfl) ?_
  obtain ⟨o10, eq11, h⟩ := bnd_some h
  refine kPi (rest := []) ⟨hx, hb, hml, hown, hts⟩ (c_X4_lengthOf l x0 eq11) (va_cwS 1 hts (gAS wm_229 wm_230 wm_227 wm_231) rfl rfl rfl qd_X4_lengthOf ⟨Nat.le_of_ble_eq_true rfl, Nat.le_of_ble_eq_true rfl⟩) rfl hl.1 rfl (Nat.le_of_ble_eq_true rfl) dX4_lead_1 ⟨Nat.zero_le _, Nat.zero_le _⟩ ?_
  refine lv_istore_n (lv' := [(3, .int o10), (0, .int x0), (1, .int x1), (2, .int x2)]) hx hb dX4_lead_4 rfl hl (by decide) rfl (fun ls hl => ?_)
  refine lv_iload_n hx hb dX4_lead_5 rfl (lv_at hl 2 rfl) ?_
  obtain ⟨o12, eq13, h⟩ := bnd_some h
  refine kPi (rest := []) ⟨hx, hb, hml, hown, hts⟩ (c_X4_lengthOf l x1 eq13) (va_cwS 1 hts (gAS wm_229 wm_230 wm_227 wm_231) rfl rfl rfl qd_X4_lengthOf ⟨Nat.le_of_ble_eq_true rfl, Nat.le_of_ble_eq_true rfl⟩) rfl hl.1 rfl (Nat.le_of_ble_eq_true rfl) dX4_lead_6 ⟨Nat.zero_le _, Nat.zero_le _⟩ ?_
  refine lv_istore (lv' := [(4, .int o12), (3, .int o10), (0, .int x0), (1, .int x1), (2, .int x2)]) hx hb dX4_lead_9 hl (by decide) rfl (fun ls hl => ?_)
  refine lv_lconst (v := 0) hx hb dX4_lead_11 rfl ?_
  refine lv_lstore (lv' := [(5, .long 0), (4, .int o12), (3, .int o10), (0, .int x0), (1, .int x1), (2, .int x2)]) hx hb dX4_lead_12 hl (by decide) rfl (fun ls hl => ?_)
  refine lv_iconst (v := 1) hx hb dX4_lead_14 (by decide) ?_
  refine lv_istore (lv' := [(7, .int 1), (5, .long 0), (4, .int o12), (3, .int o10), (0, .int x0), (1, .int x1), (2, .int x2)]) hx hb dX4_lead_15 hl (by decide) rfl (fun ls hl => ?_)
  exact L17 N x0 x1 x2 o10 o12 0 1 ls (lv_sub hl [4, 5, 6, 3, 2, 1, 0] rfl) h
set_option maxHeartbeats 4000000 in
set_option maxRecDepth 100000 in
theorem c_X4_lead {N : Nat} (l : Launch) (x0 : Int32) (x1 : Int32) (x2 : Int32) {o : Int64} (h : f_X4_lead N x0 x1 x2 = some o) : mPl l yX4_lead wo_X4_lead 2 [.int x0, .int x1, .int x2] o := by
  refine Met.ofW (cc := cX4_lead) (maxL := 14) (ret := some .long) (by decide) rfl ?_
  intro p e s m args below meth c s₁ B hml hv
  obtain ⟨rfl, -⟩ := hv
  rw [lg_entry_eq]
  exact core_X4_lead x0 x1 x2 B.exec B.bytes hml B.returns (atoms_spec (ws := wo_X4_lead) B.pre) (findClass_of_methodNamed B.named) B.notSynchronized (lv_entry [.int x0, .int x1, .int x2] (n := 14) (Nat.le_of_ble_eq_true rfl)) h
theorem qd_X4_lead : yX4_lead.cls ≠ "java/lang/invoke/MethodHandle" ∧ yX4_lead.cls ≠ "java/lang/invoke/VarHandle" ∧ (parseMethodDescriptor yX4_lead.desc).map (fun d => d.parameters.length) = some 3 := by decide +kernel
