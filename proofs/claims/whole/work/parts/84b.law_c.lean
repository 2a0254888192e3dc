set_option maxHeartbeats 4000000 in
set_option maxRecDepth 100000 in
theorem lk_sign {p : Program} {l : Launch} {e : Env} {s : State} {m : MethodId} {below : List Frame} {meth : Method} {c : Code} {b L : Nat} {xs : Nat → Int32} (C0 : lw_At p s m meth c b L xs) {D : va_G} {k : Nat → ClassId} {ax am : Nat → Nat} {zb zv i : Nat} (hi : i + 6 ≤ L) (hL : L ≤ 3072) (hZ : zS zb zv (fun q : Nat => s.heap.size ≤ q) s s.heap) (hK : va_K D vwCl (xTys k) s) {WX WM : va_W} (hR : RW k ax am WX WM) {H : Heap} {locs : List Loc} (hP : va_P D vwCl (WX ++ WM) H) (hD : va_D (fun q : Nat => s.heap.size ≤ q) (WX ++ WM)) (hS : va_S (fun q : Nat => s.heap.size ≤ q) s.heap H locs) {ls : Array Slot} (hl : lv_has ls 4 [(0, .ref b), (1, .ref (ax 0)), (2, .ref (am 0)), (3, .int (nI i))]) (nx : lwNext p l e s m below meth c b D k ax am i) : W p l e room_1 s m #[Value.ref b] below meth c H locs 600000 7302250 (lw_Z below #[Value.ref b] s) (F0 m 180 ls []) := by
  obtain ⟨hx, hb, hr, hml, hown, hts, hX, hbl, hlocks, hgv⟩ := C0
  have hb : c.code = cL_law := hb
  have hown : s.vm.findClass RL = some m.cls := hown
  have hA : ∀ q : Nat, s.heap.size ≤ q → (fun q : Nat => s.heap.size ≤ q) q := fun _ h => h
  have hbA : ¬ (fun q : Nat => s.heap.size ≤ q) b := Nat.not_le.mpr hbl
  have hi1 : vp_in (nI i + 1) L := lw_in 1 hi hL (by decide)
  have hi2 : vp_in (nI i + 2) L := lw_in 2 hi hL (by decide)
  obtain ⟨r, WX', WM', mX, mM, hR'⟩ := s_sign (l := l) (D := D) (N := 40000) (zb := zb) (zv := zv) (Nat.le_refl _) hR (xs (nI i + 1).toNatClampNeg) (xs (nI i + 2).toNatClampNeg)
  obtain ⟨fx, ex⟩ := RW_x hR
  obtain ⟨fm, em⟩ := RW_m hR
  refine lv_aload_n hx hb dL_law_180 rfl (lv_at hl 1 rfl) ?_
  refine lv_aload_n hx hb dL_law_181 rfl (lv_at hl 0 rfl) ?_
  refine lv_iload_n hx hb dL_law_182 rfl (lv_at hl 3 rfl) ?_
  refine lv_iconst (v := 1) hx hb dL_law_183 (by decide) ?_
  refine lv_iadd hx hb dL_law_184 ?_
  refine va_sld hx hb hX hbl hbA hS hi1 dL_law_185 ?_
  refine lv_aload_n hx hb dL_law_186 rfl (lv_at hl 0 rfl) ?_
  refine lv_iload_n hx hb dL_law_187 rfl (lv_at hl 3 rfl) ?_
  refine lv_iconst (v := 2) hx hb dL_law_188 (by decide) ?_
  refine lv_iadd hx hb dL_law_189 ?_
  refine va_sld hx hb hX hbl hbA hS hi2 dL_law_190 ?_
  refine lcI (As := [.int (xs (nI i + 1).toNatClampNeg), .int (xs (nI i + 2).toNatClampNeg)]) (rest := []) ⟨hx, hb, hml, hown, hts⟩ mX (cwV 2 hts (gLV wm_87 wm_88 wm_89 wm_2 wm_90) rfl rfl rfl qd_X10_sign ⟨(Nat.le_of_ble_eq_true rfl), (Nat.le_of_ble_eq_true rfl)⟩) hZ hK hP hD hS hA ex rfl rfl hl.1 rfl (Nat.le_of_ble_eq_true rfl) dL_law_191 ⟨Nat.le_refl _, Nat.le_refl _⟩ (fun H locs hP hD hS => ?_)
  refine lv_aload_n hx hb dL_law_194 rfl (lv_at hl 2 rfl) ?_
  refine lv_aload_n hx hb dL_law_195 rfl (lv_at hl 0 rfl) ?_
  refine lv_iload_n hx hb dL_law_196 rfl (lv_at hl 3 rfl) ?_
  refine lv_iconst (v := 1) hx hb dL_law_197 (by decide) ?_
  refine lv_iadd hx hb dL_law_198 ?_
  refine va_sld hx hb hX hbl hbA hS hi1 dL_law_199 ?_
  refine lv_aload_n hx hb dL_law_200 rfl (lv_at hl 0 rfl) ?_
  refine lv_iload_n hx hb dL_law_201 rfl (lv_at hl 3 rfl) ?_
  refine lv_iconst (v := 2) hx hb dL_law_202 (by decide) ?_
  refine lv_iadd hx hb dL_law_203 ?_
  refine va_sld hx hb hX hbl hbA hS hi2 dL_law_204 ?_
  refine lcI (As := [.int (xs (nI i + 1).toNatClampNeg), .int (xs (nI i + 2).toNatClampNeg)]) (rest := [.int r]) ⟨hx, hb, hml, hown, hts⟩ mM (cwV 2 hts (gLV wm_109 wm_110 wm_111 wm_5 wm_112) rfl rfl rfl qd_X11_sign ⟨(Nat.le_of_ble_eq_true rfl), (Nat.le_of_ble_eq_true rfl)⟩) hZ hK hP hD hS hA em rfl rfl hl.1 rfl (Nat.le_of_ble_eq_true rfl) dL_law_205 ⟨Nat.le_refl _, Nat.le_refl _⟩ (fun H locs hP hD hS => ?_)
  refine lv_icmp_eq (tgt := 1282) hx hb dL_law_208 (by decide) (fun _ => ?_) (fun c9 => absurd rfl c9)
  exact nx WX' WM' H locs ls hR' hP hD hS hl
set_option maxHeartbeats 4000000 in
set_option maxRecDepth 100000 in
theorem lk_read {p : Program} {l : Launch} {e : Env} {s : State} {m : MethodId} {below : List Frame} {meth : Method} {c : Code} {b L : Nat} {xs : Nat → Int32} (C0 : lw_At p s m meth c b L xs) {D : va_G} {k : Nat → ClassId} {ax am : Nat → Nat} {zb zv i : Nat} (hi : i + 6 ≤ L) (hL : L ≤ 3072) (hZ : zS zb zv (fun q : Nat => s.heap.size ≤ q) s s.heap) (hK : va_K D vwCl (xTys k) s) {WX WM : va_W} (hR : RW k ax am WX WM) {H : Heap} {locs : List Loc} (hP : va_P D vwCl (WX ++ WM) H) (hD : va_D (fun q : Nat => s.heap.size ≤ q) (WX ++ WM)) (hS : va_S (fun q : Nat => s.heap.size ≤ q) s.heap H locs) {ls : Array Slot} (hl : lv_has ls 4 [(0, .ref b), (1, .ref (ax 0)), (2, .ref (am 0)), (3, .int (nI i))]) (nx : lwNext p l e s m below meth c b D k ax am i) : W p l e room_1 s m #[Value.ref b] below meth c H locs 600000 7302250 (lw_Z below #[Value.ref b] s) (F0 m 213 ls []) := by
  obtain ⟨hx, hb, hr, hml, hown, hts, hX, hbl, hlocks, hgv⟩ := C0
  have hb : c.code = cL_law := hb
  have hown : s.vm.findClass RL = some m.cls := hown
  have hA : ∀ q : Nat, s.heap.size ≤ q → (fun q : Nat => s.heap.size ≤ q) q := fun _ h => h
  have hbA : ¬ (fun q : Nat => s.heap.size ≤ q) b := Nat.not_le.mpr hbl
  have hi1 : vp_in (nI i + 1) L := lw_in 1 hi hL (by decide)
  have hi2 : vp_in (nI i + 2) L := lw_in 2 hi hL (by decide)
  obtain ⟨r, WX', WM', mX, mM, hR'⟩ := s_read (l := l) (D := D) (N := 40000) (zb := zb) (zv := zv) (Nat.le_refl _) hR (xs (nI i + 1).toNatClampNeg) (xs (nI i + 2).toNatClampNeg)
  obtain ⟨fx, ex⟩ := RW_x hR
  obtain ⟨fm, em⟩ := RW_m hR
  refine lv_aload_n hx hb dL_law_213 rfl (lv_at hl 1 rfl) ?_
  refine lv_aload_n hx hb dL_law_214 rfl (lv_at hl 0 rfl) ?_
  refine lv_iload_n hx hb dL_law_215 rfl (lv_at hl 3 rfl) ?_
  refine lv_iconst (v := 1) hx hb dL_law_216 (by decide) ?_
  refine lv_iadd hx hb dL_law_217 ?_
  refine va_sld hx hb hX hbl hbA hS hi1 dL_law_218 ?_
  refine lv_aload_n hx hb dL_law_219 rfl (lv_at hl 0 rfl) ?_
  refine lv_iload_n hx hb dL_law_220 rfl (lv_at hl 3 rfl) ?_
  refine lv_iconst (v := 2) hx hb dL_law_221 (by decide) ?_
  refine lv_iadd hx hb dL_law_222 ?_
  refine va_sld hx hb hX hbl hbA hS hi2 dL_law_223 ?_
  refine lcI (As := [.int (xs (nI i + 1).toNatClampNeg), .int (xs (nI i + 2).toNatClampNeg)]) (rest := []) ⟨hx, hb, hml, hown, hts⟩ mX (cwV 2 hts (gLV wm_123 wm_124 wm_125 wm_2 wm_126) rfl rfl rfl qd_X10_read ⟨(Nat.le_of_ble_eq_true rfl), (Nat.le_of_ble_eq_true rfl)⟩) hZ hK hP hD hS hA ex rfl rfl hl.1 rfl (Nat.le_of_ble_eq_true rfl) dL_law_224 ⟨Nat.le_refl _, Nat.le_refl _⟩ (fun H locs hP hD hS => ?_)
  refine lv_aload_n hx hb dL_law_227 rfl (lv_at hl 2 rfl) ?_
  refine lv_aload_n hx hb dL_law_228 rfl (lv_at hl 0 rfl) ?_
  refine lv_iload_n hx hb dL_law_229 rfl (lv_at hl 3 rfl) ?_
  refine lv_iconst (v := 1) hx hb dL_law_230 (by decide) ?_
  refine lv_iadd hx hb dL_law_231 ?_
  refine va_sld hx hb hX hbl hbA hS hi1 dL_law_232 ?_
  refine lv_aload_n hx hb dL_law_233 rfl (lv_at hl 0 rfl) ?_
  refine lv_iload_n hx hb dL_law_234 rfl (lv_at hl 3 rfl) ?_
  refine lv_iconst (v := 2) hx hb dL_law_235 (by decide) ?_
  refine lv_iadd hx hb dL_law_236 ?_
  refine va_sld hx hb hX hbl hbA hS hi2 dL_law_237 ?_
  refine lcI (As := [.int (xs (nI i + 1).toNatClampNeg), .int (xs (nI i + 2).toNatClampNeg)]) (rest := [.int r]) ⟨hx, hb, hml, hown, hts⟩ mM (cwV 2 hts (gLV wm_137 wm_138 wm_139 wm_5 wm_140) rfl rfl rfl qd_X11_read ⟨(Nat.le_of_ble_eq_true rfl), (Nat.le_of_ble_eq_true rfl)⟩) hZ hK hP hD hS hA em rfl rfl hl.1 rfl (Nat.le_of_ble_eq_true rfl) dL_law_238 ⟨Nat.le_refl _, Nat.le_refl _⟩ (fun H locs hP hD hS => ?_)
  refine lv_icmp_eq (tgt := 1282) hx hb dL_law_241 (by decide) (fun _ => ?_) (fun c9 => absurd rfl c9)
  exact nx WX' WM' H locs ls hR' hP hD hS hl
set_option maxHeartbeats 4000000 in
set_option maxRecDepth 100000 in
theorem lk_clear {p : Program} {l : Launch} {e : Env} {s : State} {m : MethodId} {below : List Frame} {meth : Method} {c : Code} {b L : Nat} {xs : Nat → Int32} (C0 : lw_At p s m meth c b L xs) {D : va_G} {k : Nat → ClassId} {ax am : Nat → Nat} {zb zv i : Nat} (hi : i + 6 ≤ L) (hL : L ≤ 3072) (hZ : zS zb zv (fun q : Nat => s.heap.size ≤ q) s s.heap) (hK : va_K D vwCl (xTys k) s) {WX WM : va_W} (hR : RW k ax am WX WM) {H : Heap} {locs : List Loc} (hP : va_P D vwCl (WX ++ WM) H) (hD : va_D (fun q : Nat => s.heap.size ≤ q) (WX ++ WM)) (hS : va_S (fun q : Nat => s.heap.size ≤ q) s.heap H locs) {ls : Array Slot} (hl : lv_has ls 4 [(0, .ref b), (1, .ref (ax 0)), (2, .ref (am 0)), (3, .int (nI i))]) (nx : lwNext p l e s m below meth c b D k ax am i) : W p l e room_1 s m #[Value.ref b] below meth c H locs 600000 7302250 (lw_Z below #[Value.ref b] s) (F0 m 246 ls []) := by
  obtain ⟨hx, hb, hr, hml, hown, hts, hX, hbl, hlocks, hgv⟩ := C0
  have hb : c.code = cL_law := hb
  have hown : s.vm.findClass RL = some m.cls := hown
  have hA : ∀ q : Nat, s.heap.size ≤ q → (fun q : Nat => s.heap.size ≤ q) q := fun _ h => h
  have hbA : ¬ (fun q : Nat => s.heap.size ≤ q) b := Nat.not_le.mpr hbl
  have hi1 : vp_in (nI i + 1) L := lw_in 1 hi hL (by decide)
  obtain ⟨r, WX', WM', mX, mM, hR'⟩ := s_clear (l := l) (D := D) (N := 40000) (zb := zb) (zv := zv) (Nat.le_refl _) hR (xs (nI i + 1).toNatClampNeg)
  obtain ⟨fx, ex⟩ := RW_x hR
  obtain ⟨fm, em⟩ := RW_m hR
  refine lv_aload_n hx hb dL_law_246 rfl (lv_at hl 1 rfl) ?_
  refine lv_aload_n hx hb dL_law_247 rfl (lv_at hl 0 rfl) ?_
  refine lv_iload_n hx hb dL_law_248 rfl (lv_at hl 3 rfl) ?_
  refine lv_iconst (v := 1) hx hb dL_law_249 (by decide) ?_
  refine lv_iadd hx hb dL_law_250 ?_
  refine va_sld hx hb hX hbl hbA hS hi1 dL_law_251 ?_
  refine lcI (As := [.int (xs (nI i + 1).toNatClampNeg)]) (rest := []) ⟨hx, hb, hml, hown, hts⟩ mX (cwV 1 hts (gLV wm_149 wm_150 wm_151 wm_2 wm_152) rfl rfl rfl qd_X10_clear ⟨(Nat.le_of_ble_eq_true rfl), (Nat.le_of_ble_eq_true rfl)⟩) hZ hK hP hD hS hA ex rfl rfl hl.1 rfl (Nat.le_of_ble_eq_true rfl) dL_law_252 ⟨Nat.le_refl _, Nat.le_refl _⟩ (fun H locs hP hD hS => ?_)
  refine lv_aload_n hx hb dL_law_255 rfl (lv_at hl 2 rfl) ?_
  refine lv_aload_n hx hb dL_law_256 rfl (lv_at hl 0 rfl) ?_
  refine lv_iload_n hx hb dL_law_257 rfl (lv_at hl 3 rfl) ?_
  refine lv_iconst (v := 1) hx hb dL_law_258 (by decide) ?_
  refine lv_iadd hx hb dL_law_259 ?_
  refine va_sld hx hb hX hbl hbA hS hi1 dL_law_260 ?_
  refine lcI (As := [.int (xs (nI i + 1).toNatClampNeg)]) (rest := [.int r]) ⟨hx, hb, hml, hown, hts⟩ mM (cwV 1 hts (gLV wm_157 wm_158 wm_159 wm_5 wm_160) rfl rfl rfl qd_X11_clear ⟨(Nat.le_of_ble_eq_true rfl), (Nat.le_of_ble_eq_true rfl)⟩) hZ hK hP hD hS hA em rfl rfl hl.1 rfl (Nat.le_of_ble_eq_true rfl) dL_law_261 ⟨Nat.le_refl _, Nat.le_refl _⟩ (fun H locs hP hD hS => ?_)
  refine lv_icmp_eq (tgt := 1282) hx hb dL_law_264 (by decide) (fun _ => ?_) (fun c9 => absurd rfl c9)
  exact nx WX' WM' H locs ls hR' hP hD hS hl
set_option maxHeartbeats 4000000 in
set_option maxRecDepth 100000 in
theorem lk_at {p : Program} {l : Launch} {e : Env} {s : State} {m : MethodId} {below : List Frame} {meth : Method} {c : Code} {b L : Nat} {xs : Nat → Int32} (C0 : lw_At p s m meth c b L xs) {D : va_G} {k : Nat → ClassId} {ax am : Nat → Nat} {zb zv i : Nat} (hi : i + 6 ≤ L) (hL : L ≤ 3072) (hZ : zS zb zv (fun q : Nat => s.heap.size ≤ q) s s.heap) (hK : va_K D vwCl (xTys k) s) {WX WM : va_W} (hR : RW k ax am WX WM) {H : Heap} {locs : List Loc} (hP : va_P D vwCl (WX ++ WM) H) (hD : va_D (fun q : Nat => s.heap.size ≤ q) (WX ++ WM)) (hS : va_S (fun q : Nat => s.heap.size ≤ q) s.heap H locs) {ls : Array Slot} (hl : lv_has ls 4 [(0, .ref b), (1, .ref (ax 0)), (2, .ref (am 0)), (3, .int (nI i))]) (nx : lwNext p l e s m below meth c b D k ax am i) : W p l e room_1 s m #[Value.ref b] below meth c H locs 600000 7302250 (lw_Z below #[Value.ref b] s) (F0 m 269 ls []) := by
  obtain ⟨hx, hb, hr, hml, hown, hts, hX, hbl, hlocks, hgv⟩ := C0
  have hb : c.code = cL_law := hb
  have hown : s.vm.findClass RL = some m.cls := hown
  have hA : ∀ q : Nat, s.heap.size ≤ q → (fun q : Nat => s.heap.size ≤ q) q := fun _ h => h
  have hbA : ¬ (fun q : Nat => s.heap.size ≤ q) b := Nat.not_le.mpr hbl
  have hi1 : vp_in (nI i + 1) L := lw_in 1 hi hL (by decide)
  have hi2 : vp_in (nI i + 2) L := lw_in 2 hi hL (by decide)
  obtain ⟨r, WX', WM', mX, mM, hR'⟩ := s_at (l := l) (D := D) (N := 40000) (zb := zb) (zv := zv) (Nat.le_refl _) hR (xs (nI i + 1).toNatClampNeg) (xs (nI i + 2).toNatClampNeg)
  obtain ⟨fx, ex⟩ := RW_x hR
  obtain ⟨fm, em⟩ := RW_m hR
  refine lv_aload_n hx hb dL_law_269 rfl (lv_at hl 1 rfl) ?_
  refine lv_aload_n hx hb dL_law_270 rfl (lv_at hl 0 rfl) ?_
  refine lv_iload_n hx hb dL_law_271 rfl (lv_at hl 3 rfl) ?_
  refine lv_iconst (v := 1) hx hb dL_law_272 (by decide) ?_
  refine lv_iadd hx hb dL_law_273 ?_
  refine va_sld hx hb hX hbl hbA hS hi1 dL_law_274 ?_
  refine lv_aload_n hx hb dL_law_275 rfl (lv_at hl 0 rfl) ?_
  refine lv_iload_n hx hb dL_law_276 rfl (lv_at hl 3 rfl) ?_
  refine lv_iconst (v := 2) hx hb dL_law_277 (by decide) ?_
  refine lv_iadd hx hb dL_law_278 ?_
  refine va_sld hx hb hX hbl hbA hS hi2 dL_law_279 ?_
  refine lcI (As := [.int (xs (nI i + 1).toNatClampNeg), .int (xs (nI i + 2).toNatClampNeg)]) (rest := []) ⟨hx, hb, hml, hown, hts⟩ mX (cwV 2 hts (gLV wm_161 wm_162 wm_163 wm_2 wm_164) rfl rfl rfl qd_X10_at ⟨(Nat.le_of_ble_eq_true rfl), (Nat.le_of_ble_eq_true rfl)⟩) hZ hK hP hD hS hA ex rfl rfl hl.1 rfl (Nat.le_of_ble_eq_true rfl) dL_law_280 ⟨Nat.le_refl _, Nat.le_refl _⟩ (fun H locs hP hD hS => ?_)
  refine lv_aload_n hx hb dL_law_283 rfl (lv_at hl 2 rfl) ?_
  refine lv_aload_n hx hb dL_law_284 rfl (lv_at hl 0 rfl) ?_
  refine lv_iload_n hx hb dL_law_285 rfl (lv_at hl 3 rfl) ?_
  refine lv_iconst (v := 1) hx hb dL_law_286 (by decide) ?_
  refine lv_iadd hx hb dL_law_287 ?_
  refine va_sld hx hb hX hbl hbA hS hi1 dL_law_288 ?_
  refine lv_aload_n hx hb dL_law_289 rfl (lv_at hl 0 rfl) ?_
  refine lv_iload_n hx hb dL_law_290 rfl (lv_at hl 3 rfl) ?_
  refine lv_iconst (v := 2) hx hb dL_law_291 (by decide) ?_
  refine lv_iadd hx hb dL_law_292 ?_
  refine va_sld hx hb hX hbl hbA hS hi2 dL_law_293 ?_
  refine lcI (As := [.int (xs (nI i + 1).toNatClampNeg), .int (xs (nI i + 2).toNatClampNeg)]) (rest := [.int r]) ⟨hx, hb, hml, hown, hts⟩ mM (cwV 2 hts (gLV wm_169 wm_170 wm_171 wm_5 wm_172) rfl rfl rfl qd_X11_at ⟨(Nat.le_of_ble_eq_true rfl), (Nat.le_of_ble_eq_true rfl)⟩) hZ hK hP hD hS hA em rfl rfl hl.1 rfl (Nat.le_of_ble_eq_true rfl) dL_law_294 ⟨Nat.le_refl _, Nat.le_refl _⟩ (fun H locs hP hD hS => ?_)
  refine lv_icmp_eq (tgt := 1282) hx hb dL_law_297 (by decide) (fun _ => ?_) (fun c9 => absurd rfl c9)
  exact nx WX' WM' H locs ls hR' hP hD hS hl
set_option maxHeartbeats 4000000 in
set_option maxRecDepth 100000 in
theorem lk_set {p : Program} {l : Launch} {e : Env} {s : State} {m : MethodId} {below : List Frame} {meth : Method} {c : Code} {b L : Nat} {xs : Nat → Int32} (C0 : lw_At p s m meth c b L xs) {D : va_G} {k : Nat → ClassId} {ax am : Nat → Nat} {zb zv i : Nat} (hi : i + 6 ≤ L) (hL : L ≤ 3072) (hZ : zS zb zv (fun q : Nat => s.heap.size ≤ q) s s.heap) (hK : va_K D vwCl (xTys k) s) {WX WM : va_W} (hR : RW k ax am WX WM) {H : Heap} {locs : List Loc} (hP : va_P D vwCl (WX ++ WM) H) (hD : va_D (fun q : Nat => s.heap.size ≤ q) (WX ++ WM)) (hS : va_S (fun q : Nat => s.heap.size ≤ q) s.heap H locs) {ls : Array Slot} (hl : lv_has ls 4 [(0, .ref b), (1, .ref (ax 0)), (2, .ref (am 0)), (3, .int (nI i))]) (nx : lwNext p l e s m below meth c b D k ax am i) : W p l e room_1 s m #[Value.ref b] below meth c H locs 600000 7302250 (lw_Z below #[Value.ref b] s) (F0 m 302 ls []) := by
  obtain ⟨hx, hb, hr, hml, hown, hts, hX, hbl, hlocks, hgv⟩ := C0
  have hb : c.code = cL_law := hb
  have hown : s.vm.findClass RL = some m.cls := hown
  have hA : ∀ q : Nat, s.heap.size ≤ q → (fun q : Nat => s.heap.size ≤ q) q := fun _ h => h
  have hbA : ¬ (fun q : Nat => s.heap.size ≤ q) b := Nat.not_le.mpr hbl
  have hi1 : vp_in (nI i + 1) L := lw_in 1 hi hL (by decide)
  have hi2 : vp_in (nI i + 2) L := lw_in 2 hi hL (by decide)
  obtain ⟨r, WX', WM', mX, mM, hR'⟩ := s_set (l := l) (D := D) (N := 40000) (zb := zb) (zv := zv) (Nat.le_refl _) hR (xs (nI i + 1).toNatClampNeg) (xs (nI i + 2).toNatClampNeg)
  obtain ⟨fx, ex⟩ := RW_x hR
  obtain ⟨fm, em⟩ := RW_m hR
  refine lv_aload_n hx hb dL_law_302 rfl (lv_at hl 1 rfl) ?_
  refine lv_aload_n hx hb dL_law_303 rfl (lv_at hl 0 rfl) ?_
  refine lv_iload_n hx hb dL_law_304 rfl (lv_at hl 3 rfl) ?_
  refine lv_iconst (v := 1) hx hb dL_law_305 (by decide) ?_
  refine lv_iadd hx hb dL_law_306 ?_
  refine va_sld hx hb hX hbl hbA hS hi1 dL_law_307 ?_
  refine lv_aload_n hx hb dL_law_308 rfl (lv_at hl 0 rfl) ?_
  refine lv_iload_n hx hb dL_law_309 rfl (lv_at hl 3 rfl) ?_
  refine lv_iconst (v := 2) hx hb dL_law_310 (by decide) ?_
  refine lv_iadd hx hb dL_law_311 ?_
  refine va_sld hx hb hX hbl hbA hS hi2 dL_law_312 ?_
  refine lcI (As := [.int (xs (nI i + 1).toNatClampNeg), .int (xs (nI i + 2).toNatClampNeg)]) (rest := []) ⟨hx, hb, hml, hown, hts⟩ mX (cwV 2 hts (gLV wm_173 wm_174 wm_175 wm_2 wm_176) rfl rfl rfl qd_X10_set ⟨(Nat.le_of_ble_eq_true rfl), (Nat.le_of_ble_eq_true rfl)⟩) hZ hK hP hD hS hA ex rfl rfl hl.1 rfl (Nat.le_of_ble_eq_true rfl) dL_law_313 ⟨Nat.le_refl _, Nat.le_refl _⟩ (fun H locs hP hD hS => ?_)
  refine lv_aload_n hx hb dL_law_316 rfl (lv_at hl 2 rfl) ?_
  refine lv_aload_n hx hb dL_law_317 rfl (lv_at hl 0 rfl) ?_
  refine lv_iload_n hx hb dL_law_318 rfl (lv_at hl 3 rfl) ?_
  refine lv_iconst (v := 1) hx hb dL_law_319 (by decide) ?_
  refine lv_iadd hx hb dL_law_320 ?_
  refine va_sld hx hb hX hbl hbA hS hi1 dL_law_321 ?_
  refine lv_aload_n hx hb dL_law_322 rfl (lv_at hl 0 rfl) ?_
  refine lv_iload_n hx hb dL_law_323 rfl (lv_at hl 3 rfl) ?_
  refine lv_iconst (v := 2) hx hb dL_law_324 (by decide) ?_
  refine lv_iadd hx hb dL_law_325 ?_
  refine va_sld hx hb hX hbl hbA hS hi2 dL_law_326 ?_
  refine lcI (As := [.int (xs (nI i + 1).toNatClampNeg), .int (xs (nI i + 2).toNatClampNeg)]) (rest := [.int r]) ⟨hx, hb, hml, hown, hts⟩ mM (cwV 2 hts (gLV wm_181 wm_182 wm_183 wm_5 wm_184) rfl rfl rfl qd_X11_set ⟨(Nat.le_of_ble_eq_true rfl), (Nat.le_of_ble_eq_true rfl)⟩) hZ hK hP hD hS hA em rfl rfl hl.1 rfl (Nat.le_of_ble_eq_true rfl) dL_law_327 ⟨Nat.le_refl _, Nat.le_refl _⟩ (fun H locs hP hD hS => ?_)
  refine lv_icmp_eq (tgt := 1282) hx hb dL_law_330 (by decide) (fun _ => ?_) (fun c9 => absurd rfl c9)
  exact nx WX' WM' H locs ls hR' hP hD hS hl
set_option maxHeartbeats 4000000 in
set_option maxRecDepth 100000 in
theorem lk_shows {p : Program} {l : Launch} {e : Env} {s : State} {m : MethodId} {below : List Frame} {meth : Method} {c : Code} {b L : Nat} {xs : Nat → Int32} (C0 : lw_At p s m meth c b L xs) {D : va_G} {k : Nat → ClassId} {ax am : Nat → Nat} {zb zv i : Nat} (hi : i + 6 ≤ L) (hL : L ≤ 3072) (hZ : zS zb zv (fun q : Nat => s.heap.size ≤ q) s s.heap) (hK : va_K D vwCl (xTys k) s) {WX WM : va_W} (hR : RW k ax am WX WM) {H : Heap} {locs : List Loc} (hP : va_P D vwCl (WX ++ WM) H) (hD : va_D (fun q : Nat => s.heap.size ≤ q) (WX ++ WM)) (hS : va_S (fun q : Nat => s.heap.size ≤ q) s.heap H locs) {ls : Array Slot} (hl : lv_has ls 4 [(0, .ref b), (1, .ref (ax 0)), (2, .ref (am 0)), (3, .int (nI i))]) (nx : lwNext p l e s m below meth c b D k ax am i) : W p l e room_1 s m #[Value.ref b] below meth c H locs 600000 7302250 (lw_Z below #[Value.ref b] s) (F0 m 335 ls []) := by
  obtain ⟨hx, hb, hr, hml, hown, hts, hX, hbl, hlocks, hgv⟩ := C0
  have hb : c.code = cL_law := hb
  have hown : s.vm.findClass RL = some m.cls := hown
  have hA : ∀ q : Nat, s.heap.size ≤ q → (fun q : Nat => s.heap.size ≤ q) q := fun _ h => h
  have hbA : ¬ (fun q : Nat => s.heap.size ≤ q) b := Nat.not_le.mpr hbl
  have hi1 : vp_in (nI i + 1) L := lw_in 1 hi hL (by decide)
  have hi2 : vp_in (nI i + 2) L := lw_in 2 hi hL (by decide)
  obtain ⟨r, WX', WM', mX, mM, hR'⟩ := s_shows (l := l) (D := D) (N := 40000) (zb := zb) (zv := zv) (Nat.le_refl _) hR (xs (nI i + 1).toNatClampNeg) (xs (nI i + 2).toNatClampNeg)
  obtain ⟨fx, ex⟩ := RW_x hR
  obtain ⟨fm, em⟩ := RW_m hR
  refine lv_aload_n hx hb dL_law_335 rfl (lv_at hl 1 rfl) ?_
  refine lv_aload_n hx hb dL_law_336 rfl (lv_at hl 0 rfl) ?_
  refine lv_iload_n hx hb dL_law_337 rfl (lv_at hl 3 rfl) ?_
  refine lv_iconst (v := 1) hx hb dL_law_338 (by decide) ?_
  refine lv_iadd hx hb dL_law_339 ?_
  refine va_sld hx hb hX hbl hbA hS hi1 dL_law_340 ?_
  refine lv_aload_n hx hb dL_law_341 rfl (lv_at hl 0 rfl) ?_
  refine lv_iload_n hx hb dL_law_342 rfl (lv_at hl 3 rfl) ?_
  refine lv_iconst (v := 2) hx hb dL_law_343 (by decide) ?_
  refine lv_iadd hx hb dL_law_344 ?_
  refine va_sld hx hb hX hbl hbA hS hi2 dL_law_345 ?_
  refine lcI (As := [.int (xs (nI i + 1).toNatClampNeg), .int (xs (nI i + 2).toNatClampNeg)]) (rest := []) ⟨hx, hb, hml, hown, hts⟩ mX (cwV 2 hts (gLV wm_185 wm_186 wm_187 wm_2 wm_188) rfl rfl rfl qd_X10_shows ⟨(Nat.le_of_ble_eq_true rfl), (Nat.le_of_ble_eq_true rfl)⟩) hZ hK hP hD hS hA ex rfl rfl hl.1 rfl (Nat.le_of_ble_eq_true rfl) dL_law_346 ⟨Nat.le_refl _, Nat.le_refl _⟩ (fun H locs hP hD hS => ?_)
  refine lv_aload_n hx hb dL_law_349 rfl (lv_at hl 2 rfl) ?_
  refine lv_aload_n hx hb dL_law_350 rfl (lv_at hl 0 rfl) ?_
  refine lv_iload_n hx hb dL_law_351 rfl (lv_at hl 3 rfl) ?_
  refine lv_iconst (v := 1) hx hb dL_law_352 (by decide) ?_
  refine lv_iadd hx hb dL_law_353 ?_
  refine va_sld hx hb hX hbl hbA hS hi1 dL_law_354 ?_
  refine lv_aload_n hx hb dL_law_355 rfl (lv_at hl 0 rfl) ?_
  refine lv_iload_n hx hb dL_law_356 rfl (lv_at hl 3 rfl) ?_
  refine lv_iconst (v := 2) hx hb dL_law_357 (by decide) ?_
  refine lv_iadd hx hb dL_law_358 ?_
  refine va_sld hx hb hX hbl hbA hS hi2 dL_law_359 ?_
  refine lcI (As := [.int (xs (nI i + 1).toNatClampNeg), .int (xs (nI i + 2).toNatClampNeg)]) (rest := [.int r]) ⟨hx, hb, hml, hown, hts⟩ mM (cwV 2 hts (gLV wm_233 wm_234 wm_235 wm_5 wm_236) rfl rfl rfl qd_X11_shows ⟨(Nat.le_of_ble_eq_true rfl), (Nat.le_of_ble_eq_true rfl)⟩) hZ hK hP hD hS hA em rfl rfl hl.1 rfl (Nat.le_of_ble_eq_true rfl) dL_law_360 ⟨Nat.le_refl _, Nat.le_refl _⟩ (fun H locs hP hD hS => ?_)
  refine lv_icmp_eq (tgt := 1282) hx hb dL_law_363 (by decide) (fun _ => ?_) (fun c9 => absurd rfl c9)
  exact nx WX' WM' H locs ls hR' hP hD hS hl
set_option maxHeartbeats 4000000 in
set_option maxRecDepth 100000 in
theorem lk_type {p : Program} {l : Launch} {e : Env} {s : State} {m : MethodId} {below : List Frame} {meth : Method} {c : Code} {b L : Nat} {xs : Nat → Int32} (C0 : lw_At p s m meth c b L xs) {D : va_G} {k : Nat → ClassId} {ax am : Nat → Nat} {zb zv i : Nat} (hi : i + 6 ≤ L) (hL : L ≤ 3072) (hZ : zS zb zv (fun q : Nat => s.heap.size ≤ q) s s.heap) (hK : va_K D vwCl (xTys k) s) {WX WM : va_W} (hR : RW k ax am WX WM) {H : Heap} {locs : List Loc} (hP : va_P D vwCl (WX ++ WM) H) (hD : va_D (fun q : Nat => s.heap.size ≤ q) (WX ++ WM)) (hS : va_S (fun q : Nat => s.heap.size ≤ q) s.heap H locs) {ls : Array Slot} (hl : lv_has ls 4 [(0, .ref b), (1, .ref (ax 0)), (2, .ref (am 0)), (3, .int (nI i))]) (nx : lwNext p l e s m below meth c b D k ax am i) : W p l e room_1 s m #[Value.ref b] below meth c H locs 600000 7302250 (lw_Z below #[Value.ref b] s) (F0 m 368 ls []) := by
  obtain ⟨hx, hb, hr, hml, hown, hts, hX, hbl, hlocks, hgv⟩ := C0
  have hb : c.code = cL_law := hb
  have hown : s.vm.findClass RL = some m.cls := hown
  have hA : ∀ q : Nat, s.heap.size ≤ q → (fun q : Nat => s.heap.size ≤ q) q := fun _ h => h
  have hbA : ¬ (fun q : Nat => s.heap.size ≤ q) b := Nat.not_le.mpr hbl
  have hi1 : vp_in (nI i + 1) L := lw_in 1 hi hL (by decide)
  obtain ⟨r, WX', WM', mX, mM, hR'⟩ := s_type (l := l) (D := D) (N := 40000) (zb := zb) (zv := zv) (Nat.le_refl _) hR (xs (nI i + 1).toNatClampNeg)
  obtain ⟨fx, ex⟩ := RW_x hR
  obtain ⟨fm, em⟩ := RW_m hR
  refine lv_aload_n hx hb dL_law_368 rfl (lv_at hl 1 rfl) ?_
  refine lv_aload_n hx hb dL_law_369 rfl (lv_at hl 0 rfl) ?_
  refine lv_iload_n hx hb dL_law_370 rfl (lv_at hl 3 rfl) ?_
  refine lv_iconst (v := 1) hx hb dL_law_371 (by decide) ?_
  refine lv_iadd hx hb dL_law_372 ?_
  refine va_sld hx hb hX hbl hbA hS hi1 dL_law_373 ?_
  refine lcI (As := [.int (xs (nI i + 1).toNatClampNeg)]) (rest := []) ⟨hx, hb, hml, hown, hts⟩ mX (cwV 1 hts (gLV wm_263 wm_264 wm_265 wm_2 wm_266) rfl rfl rfl qd_X10_type ⟨(Nat.le_of_ble_eq_true rfl), (Nat.le_of_ble_eq_true rfl)⟩) hZ hK hP hD hS hA ex rfl rfl hl.1 rfl (Nat.le_of_ble_eq_true rfl) dL_law_374 ⟨Nat.le_refl _, Nat.le_refl _⟩ (fun H locs hP hD hS => ?_)
  refine lv_aload_n hx hb dL_law_377 rfl (lv_at hl 2 rfl) ?_
  refine lv_aload_n hx hb dL_law_378 rfl (lv_at hl 0 rfl) ?_
  refine lv_iload_n hx hb dL_law_379 rfl (lv_at hl 3 rfl) ?_
  refine lv_iconst (v := 1) hx hb dL_law_380 (by decide) ?_
  refine lv_iadd hx hb dL_law_381 ?_
  refine va_sld hx hb hX hbl hbA hS hi1 dL_law_382 ?_
  refine lcI (As := [.int (xs (nI i + 1).toNatClampNeg)]) (rest := [.int r]) ⟨hx, hb, hml, hown, hts⟩ mM (cwV 1 hts (gLV wm_385 wm_386 wm_387 wm_5 wm_388) rfl rfl rfl qd_X11_type ⟨(Nat.le_of_ble_eq_true rfl), (Nat.le_of_ble_eq_true rfl)⟩) hZ hK hP hD hS hA em rfl rfl hl.1 rfl (Nat.le_of_ble_eq_true rfl) dL_law_383 ⟨Nat.le_refl _, Nat.le_refl _⟩ (fun H locs hP hD hS => ?_)
  refine lv_icmp_eq (tgt := 1282) hx hb dL_law_386 (by decide) (fun _ => ?_) (fun c9 => absurd rfl c9)
  exact nx WX' WM' H locs ls hR' hP hD hS hl
set_option maxHeartbeats 4000000 in
set_option maxRecDepth 100000 in
theorem lk_wipe {p : Program} {l : Launch} {e : Env} {s : State} {m : MethodId} {below : List Frame} {meth : Method} {c : Code} {b L : Nat} {xs : Nat → Int32} (C0 : lw_At p s m meth c b L xs) {D : va_G} {k : Nat → ClassId} {ax am : Nat → Nat} {zb zv i : Nat} (hi : i + 6 ≤ L) (hL : L ≤ 3072) (hZ : zS zb zv (fun q : Nat => s.heap.size ≤ q) s s.heap) (hK : va_K D vwCl (xTys k) s) {WX WM : va_W} (hR : RW k ax am WX WM) {H : Heap} {locs : List Loc} (hP : va_P D vwCl (WX ++ WM) H) (hD : va_D (fun q : Nat => s.heap.size ≤ q) (WX ++ WM)) (hS : va_S (fun q : Nat => s.heap.size ≤ q) s.heap H locs) {ls : Array Slot} (hl : lv_has ls 4 [(0, .ref b), (1, .ref (ax 0)), (2, .ref (am 0)), (3, .int (nI i))]) (nx : lwNext p l e s m below meth c b D k ax am i) : W p l e room_1 s m #[Value.ref b] below meth c H locs 600000 7302250 (lw_Z below #[Value.ref b] s) (F0 m 391 ls []) := by
  obtain ⟨hx, hb, hr, hml, hown, hts, hX, hbl, hlocks, hgv⟩ := C0
  have hb : c.code = cL_law := hb
  have hown : s.vm.findClass RL = some m.cls := hown
  have hA : ∀ q : Nat, s.heap.size ≤ q → (fun q : Nat => s.heap.size ≤ q) q := fun _ h => h
  have hbA : ¬ (fun q : Nat => s.heap.size ≤ q) b := Nat.not_le.mpr hbl
  obtain ⟨r, WX', WM', mX, mM, hR'⟩ := s_wipe (l := l) (D := D) (N := 40000) (zb := zb) (zv := zv) (Nat.le_refl _) hR
  obtain ⟨fx, ex⟩ := RW_x hR
  obtain ⟨fm, em⟩ := RW_m hR
  refine lv_aload_n hx hb dL_law_391 rfl (lv_at hl 1 rfl) ?_
  refine lcI (As := []) (rest := []) ⟨hx, hb, hml, hown, hts⟩ mX (cwV 0 hts (gLV wm_391 wm_392 wm_393 wm_2 wm_394) rfl rfl rfl qd_X10_wipe ⟨(Nat.le_of_ble_eq_true rfl), (Nat.le_of_ble_eq_true rfl)⟩) hZ hK hP hD hS hA ex rfl rfl hl.1 rfl (Nat.le_of_ble_eq_true rfl) dL_law_392 ⟨Nat.le_refl _, Nat.le_refl _⟩ (fun H locs hP hD hS => ?_)
  refine lv_aload_n hx hb dL_law_395 rfl (lv_at hl 2 rfl) ?_
  refine lcI (As := []) (rest := [.int r]) ⟨hx, hb, hml, hown, hts⟩ mM (cwV 0 hts (gLV wm_399 wm_400 wm_401 wm_5 wm_402) rfl rfl rfl qd_X11_wipe ⟨(Nat.le_of_ble_eq_true rfl), (Nat.le_of_ble_eq_true rfl)⟩) hZ hK hP hD hS hA em rfl rfl hl.1 rfl (Nat.le_of_ble_eq_true rfl) dL_law_396 ⟨Nat.le_refl _, Nat.le_refl _⟩ (fun H locs hP hD hS => ?_)
  refine lv_icmp_eq (tgt := 1282) hx hb dL_law_399 (by decide) (fun _ => ?_) (fun c9 => absurd rfl c9)
  exact nx WX' WM' H locs ls hR' hP hD hS hl
set_option maxHeartbeats 4000000 in
set_option maxRecDepth 100000 in
theorem lk_fault {p : Program} {l : Launch} {e : Env} {s : State} {m : MethodId} {below : List Frame} {meth : Method} {c : Code} {b L : Nat} {xs : Nat → Int32} (C0 : lw_At p s m meth c b L xs) {D : va_G} {k : Nat → ClassId} {ax am : Nat → Nat} {zb zv i : Nat} (hi : i + 6 ≤ L) (hL : L ≤ 3072) (hZ : zS zb zv (fun q : Nat => s.heap.size ≤ q) s s.heap) (hK : va_K D vwCl (xTys k) s) {WX WM : va_W} (hR : RW k ax am WX WM) {H : Heap} {locs : List Loc} (hP : va_P D vwCl (WX ++ WM) H) (hD : va_D (fun q : Nat => s.heap.size ≤ q) (WX ++ WM)) (hS : va_S (fun q : Nat => s.heap.size ≤ q) s.heap H locs) {ls : Array Slot} (hl : lv_has ls 4 [(0, .ref b), (1, .ref (ax 0)), (2, .ref (am 0)), (3, .int (nI i))]) (nx : lwNext p l e s m below meth c b D k ax am i) : W p l e room_1 s m #[Value.ref b] below meth c H locs 600000 7302250 (lw_Z below #[Value.ref b] s) (F0 m 404 ls []) := by
  obtain ⟨hx, hb, hr, hml, hown, hts, hX, hbl, hlocks, hgv⟩ := C0
  have hb : c.code = cL_law := hb
  have hown : s.vm.findClass RL = some m.cls := hown
  have hA : ∀ q : Nat, s.heap.size ≤ q → (fun q : Nat => s.heap.size ≤ q) q := fun _ h => h
  have hbA : ¬ (fun q : Nat => s.heap.size ≤ q) b := Nat.not_le.mpr hbl
  obtain ⟨r, WX', WM', mX, mM, hR'⟩ := s_fault (l := l) (D := D) (N := 40000) (zb := zb) (zv := zv) (Nat.le_refl _) hR
  obtain ⟨fx, ex⟩ := RW_x hR
  obtain ⟨fm, em⟩ := RW_m hR
  refine lv_aload_n hx hb dL_law_404 rfl (lv_at hl 1 rfl) ?_
  refine lcI (As := []) (rest := []) ⟨hx, hb, hml, hown, hts⟩ mX (cwV 0 hts (gLV wm_403 wm_404 wm_405 wm_2 wm_406) rfl rfl rfl qd_X10_fault ⟨(Nat.le_of_ble_eq_true rfl), (Nat.le_of_ble_eq_true rfl)⟩) hZ hK hP hD hS hA ex rfl rfl hl.1 rfl (Nat.le_of_ble_eq_true rfl) dL_law_405 ⟨Nat.le_refl _, Nat.le_refl _⟩ (fun H locs hP hD hS => ?_)
  refine lv_aload_n hx hb dL_law_408 rfl (lv_at hl 2 rfl) ?_
  refine lcI (As := []) (rest := [.int r]) ⟨hx, hb, hml, hown, hts⟩ mM (cwV 0 hts (gLV wm_411 wm_412 wm_413 wm_5 wm_414) rfl rfl rfl qd_X11_fault ⟨(Nat.le_of_ble_eq_true rfl), (Nat.le_of_ble_eq_true rfl)⟩) hZ hK hP hD hS hA em rfl rfl hl.1 rfl (Nat.le_of_ble_eq_true rfl) dL_law_409 ⟨Nat.le_refl _, Nat.le_refl _⟩ (fun H locs hP hD hS => ?_)
  refine lv_icmp_eq (tgt := 1282) hx hb dL_law_412 (by decide) (fun _ => ?_) (fun c9 => absurd rfl c9)
  exact nx WX' WM' H locs ls hR' hP hD hS hl
set_option maxHeartbeats 4000000 in
set_option maxRecDepth 100000 in
theorem lk_holds {p : Program} {l : Launch} {e : Env} {s : State} {m : MethodId} {below : List Frame} {meth : Method} {c : Code} {b L : Nat} {xs : Nat → Int32} (C0 : lw_At p s m meth c b L xs) {D : va_G} {k : Nat → ClassId} {ax am : Nat → Nat} {zb zv i : Nat} (hi : i + 6 ≤ L) (hL : L ≤ 3072) (hZ : zS zb zv (fun q : Nat => s.heap.size ≤ q) s s.heap) (hK : va_K D vwCl (xTys k) s) {WX WM : va_W} (hR : RW k ax am WX WM) {H : Heap} {locs : List Loc} (hP : va_P D vwCl (WX ++ WM) H) (hD : va_D (fun q : Nat => s.heap.size ≤ q) (WX ++ WM)) (hS : va_S (fun q : Nat => s.heap.size ≤ q) s.heap H locs) {ls : Array Slot} (hl : lv_has ls 4 [(0, .ref b), (1, .ref (ax 0)), (2, .ref (am 0)), (3, .int (nI i))]) (nx : lwNext p l e s m below meth c b D k ax am i) : W p l e room_1 s m #[Value.ref b] below meth c H locs 600000 7302250 (lw_Z below #[Value.ref b] s) (F0 m 417 ls []) := by
  obtain ⟨hx, hb, hr, hml, hown, hts, hX, hbl, hlocks, hgv⟩ := C0
  have hb : c.code = cL_law := hb
  have hown : s.vm.findClass RL = some m.cls := hown
  have hA : ∀ q : Nat, s.heap.size ≤ q → (fun q : Nat => s.heap.size ≤ q) q := fun _ h => h
  have hbA : ¬ (fun q : Nat => s.heap.size ≤ q) b := Nat.not_le.mpr hbl
  have hi1 : vp_in (nI i + 1) L := lw_in 1 hi hL (by decide)
  obtain ⟨r, WX', WM', mX, mM, hR'⟩ := s_holds (l := l) (D := D) (N := 40000) (zb := zb) (zv := zv) (Nat.le_refl _) hR (xs (nI i + 1).toNatClampNeg)
  obtain ⟨fx, ex⟩ := RW_x hR
  obtain ⟨fm, em⟩ := RW_m hR
  refine lv_aload_n hx hb dL_law_417 rfl (lv_at hl 1 rfl) ?_
  refine lv_aload_n hx hb dL_law_418 rfl (lv_at hl 0 rfl) ?_
  refine lv_iload_n hx hb dL_law_419 rfl (lv_at hl 3 rfl) ?_
  refine lv_iconst (v := 1) hx hb dL_law_420 (by decide) ?_
  refine lv_iadd hx hb dL_law_421 ?_
  refine va_sld hx hb hX hbl hbA hS hi1 dL_law_422 ?_
  refine lcI (As := [.int (xs (nI i + 1).toNatClampNeg)]) (rest := []) ⟨hx, hb, hml, hown, hts⟩ mX (cwV 1 hts (gLV wm_433 wm_434 wm_435 wm_2 wm_436) rfl rfl rfl qd_X10_holds ⟨(Nat.le_of_ble_eq_true rfl), (Nat.le_of_ble_eq_true rfl)⟩) hZ hK hP hD hS hA ex rfl rfl hl.1 rfl (Nat.le_of_ble_eq_true rfl) dL_law_423 ⟨Nat.le_refl _, Nat.le_refl _⟩ (fun H locs hP hD hS => ?_)
  refine lv_aload_n hx hb dL_law_426 rfl (lv_at hl 2 rfl) ?_
  refine lv_aload_n hx hb dL_law_427 rfl (lv_at hl 0 rfl) ?_
  refine lv_iload_n hx hb dL_law_428 rfl (lv_at hl 3 rfl) ?_
  refine lv_iconst (v := 1) hx hb dL_law_429 (by decide) ?_
  refine lv_iadd hx hb dL_law_430 ?_
  refine va_sld hx hb hX hbl hbA hS hi1 dL_law_431 ?_
  refine lcI (As := [.int (xs (nI i + 1).toNatClampNeg)]) (rest := [.int r]) ⟨hx, hb, hml, hown, hts⟩ mM (cwV 1 hts (gLV wm_451 wm_452 wm_453 wm_5 wm_454) rfl rfl rfl qd_X11_holds ⟨(Nat.le_of_ble_eq_true rfl), (Nat.le_of_ble_eq_true rfl)⟩) hZ hK hP hD hS hA em rfl rfl hl.1 rfl (Nat.le_of_ble_eq_true rfl) dL_law_432 ⟨Nat.le_refl _, Nat.le_refl _⟩ (fun H locs hP hD hS => ?_)
  refine lv_icmp_eq (tgt := 1282) hx hb dL_law_435 (by decide) (fun _ => ?_) (fun c9 => absurd rfl c9)
  exact nx WX' WM' H locs ls hR' hP hD hS hl
set_option maxHeartbeats 4000000 in
set_option maxRecDepth 100000 in
theorem lk_shown {p : Program} {l : Launch} {e : Env} {s : State} {m : MethodId} {below : List Frame} {meth : Method} {c : Code} {b L : Nat} {xs : Nat → Int32} (C0 : lw_At p s m meth c b L xs) {D : va_G} {k : Nat → ClassId} {ax am : Nat → Nat} {zb zv i : Nat} (hi : i + 6 ≤ L) (hL : L ≤ 3072) (hZ : zS zb zv (fun q : Nat => s.heap.size ≤ q) s s.heap) (hK : va_K D vwCl (xTys k) s) {WX WM : va_W} (hR : RW k ax am WX WM) {H : Heap} {locs : List Loc} (hP : va_P D vwCl (WX ++ WM) H) (hD : va_D (fun q : Nat => s.heap.size ≤ q) (WX ++ WM)) (hS : va_S (fun q : Nat => s.heap.size ≤ q) s.heap H locs) {ls : Array Slot} (hl : lv_has ls 4 [(0, .ref b), (1, .ref (ax 0)), (2, .ref (am 0)), (3, .int (nI i))]) (nx : lwNext p l e s m below meth c b D k ax am i) : W p l e room_1 s m #[Value.ref b] below meth c H locs 600000 7302250 (lw_Z below #[Value.ref b] s) (F0 m 440 ls []) := by
  obtain ⟨hx, hb, hr, hml, hown, hts, hX, hbl, hlocks, hgv⟩ := C0
  have hb : c.code = cL_law := hb
  have hown : s.vm.findClass RL = some m.cls := hown
  have hA : ∀ q : Nat, s.heap.size ≤ q → (fun q : Nat => s.heap.size ≤ q) q := fun _ h => h
  have hbA : ¬ (fun q : Nat => s.heap.size ≤ q) b := Nat.not_le.mpr hbl
  have hi1 : vp_in (nI i + 1) L := lw_in 1 hi hL (by decide)
  have hi2 : vp_in (nI i + 2) L := lw_in 2 hi hL (by decide)
  obtain ⟨r, WX', WM', mX, mM, hR'⟩ := s_shown (l := l) (D := D) (N := 40000) (zb := zb) (zv := zv) (Nat.le_refl _) hR (xs (nI i + 1).toNatClampNeg) (xs (nI i + 2).toNatClampNeg)
  obtain ⟨fx, ex⟩ := RW_x hR
  obtain ⟨fm, em⟩ := RW_m hR
  refine lv_aload_n hx hb dL_law_440 rfl (lv_at hl 1 rfl) ?_
  refine lv_aload_n hx hb dL_law_441 rfl (lv_at hl 0 rfl) ?_
  refine lv_iload_n hx hb dL_law_442 rfl (lv_at hl 3 rfl) ?_
  refine lv_iconst (v := 1) hx hb dL_law_443 (by decide) ?_
  refine lv_iadd hx hb dL_law_444 ?_
  refine va_sld hx hb hX hbl hbA hS hi1 dL_law_445 ?_
  refine lv_aload_n hx hb dL_law_446 rfl (lv_at hl 0 rfl) ?_
  refine lv_iload_n hx hb dL_law_447 rfl (lv_at hl 3 rfl) ?_
  refine lv_iconst (v := 2) hx hb dL_law_448 (by decide) ?_
  refine lv_iadd hx hb dL_law_449 ?_
  refine va_sld hx hb hX hbl hbA hS hi2 dL_law_450 ?_
  refine lcI (As := [.int (xs (nI i + 1).toNatClampNeg), .int (xs (nI i + 2).toNatClampNeg)]) (rest := []) ⟨hx, hb, hml, hown, hts⟩ mX (cwV 2 hts (gLV wm_459 wm_460 wm_461 wm_2 wm_462) rfl rfl rfl qd_X10_shown ⟨(Nat.le_of_ble_eq_true rfl), (Nat.le_of_ble_eq_true rfl)⟩) hZ hK hP hD hS hA ex rfl rfl hl.1 rfl (Nat.le_of_ble_eq_true rfl) dL_law_451 ⟨Nat.le_refl _, Nat.le_refl _⟩ (fun H locs hP hD hS => ?_)
  refine lv_aload_n hx hb dL_law_454 rfl (lv_at hl 2 rfl) ?_
  refine lv_aload_n hx hb dL_law_455 rfl (lv_at hl 0 rfl) ?_
  refine lv_iload_n hx hb dL_law_456 rfl (lv_at hl 3 rfl) ?_
  refine lv_iconst (v := 1) hx hb dL_law_457 (by decide) ?_
  refine lv_iadd hx hb dL_law_458 ?_
  refine va_sld hx hb hX hbl hbA hS hi1 dL_law_459 ?_
  refine lv_aload_n hx hb dL_law_460 rfl (lv_at hl 0 rfl) ?_
  refine lv_iload_n hx hb dL_law_461 rfl (lv_at hl 3 rfl) ?_
  refine lv_iconst (v := 2) hx hb dL_law_462 (by decide) ?_
  refine lv_iadd hx hb dL_law_463 ?_
  refine va_sld hx hb hX hbl hbA hS hi2 dL_law_464 ?_
  refine lcI (As := [.int (xs (nI i + 1).toNatClampNeg), .int (xs (nI i + 2).toNatClampNeg)]) (rest := [.int r]) ⟨hx, hb, hml, hown, hts⟩ mM (cwV 2 hts (gLV wm_477 wm_478 wm_479 wm_5 wm_480) rfl rfl rfl qd_X11_shown ⟨(Nat.le_of_ble_eq_true rfl), (Nat.le_of_ble_eq_true rfl)⟩) hZ hK hP hD hS hA em rfl rfl hl.1 rfl (Nat.le_of_ble_eq_true rfl) dL_law_465 ⟨Nat.le_refl _, Nat.le_refl _⟩ (fun H locs hP hD hS => ?_)
  refine lv_icmp_eq (tgt := 1282) hx hb dL_law_468 (by decide) (fun _ => ?_) (fun c9 => absurd rfl c9)
  exact nx WX' WM' H locs ls hR' hP hD hS hl
set_option maxHeartbeats 4000000 in
set_option maxRecDepth 100000 in
theorem lk_nth {p : Program} {l : Launch} {e : Env} {s : State} {m : MethodId} {below : List Frame} {meth : Method} {c : Code} {b L : Nat} {xs : Nat → Int32} (C0 : lw_At p s m meth c b L xs) {D : va_G} {k : Nat → ClassId} {ax am : Nat → Nat} {zb zv i : Nat} (hi : i + 6 ≤ L) (hL : L ≤ 3072) (hZ : zS zb zv (fun q : Nat => s.heap.size ≤ q) s s.heap) (hK : va_K D vwCl (xTys k) s) {WX WM : va_W} (hR : RW k ax am WX WM) {H : Heap} {locs : List Loc} (hP : va_P D vwCl (WX ++ WM) H) (hD : va_D (fun q : Nat => s.heap.size ≤ q) (WX ++ WM)) (hS : va_S (fun q : Nat => s.heap.size ≤ q) s.heap H locs) {ls : Array Slot} (hl : lv_has ls 4 [(0, .ref b), (1, .ref (ax 0)), (2, .ref (am 0)), (3, .int (nI i))]) (nx : lwNext p l e s m below meth c b D k ax am i) : W p l e room_1 s m #[Value.ref b] below meth c H locs 600000 7302250 (lw_Z below #[Value.ref b] s) (F0 m 473 ls []) := by
  obtain ⟨hx, hb, hr, hml, hown, hts, hX, hbl, hlocks, hgv⟩ := C0
  have hb : c.code = cL_law := hb
  have hown : s.vm.findClass RL = some m.cls := hown
  have hA : ∀ q : Nat, s.heap.size ≤ q → (fun q : Nat => s.heap.size ≤ q) q := fun _ h => h
  have hbA : ¬ (fun q : Nat => s.heap.size ≤ q) b := Nat.not_le.mpr hbl
  have hi1 : vp_in (nI i + 1) L := lw_in 1 hi hL (by decide)
  have hi2 : vp_in (nI i + 2) L := lw_in 2 hi hL (by decide)
  obtain ⟨r, WX', WM', mX, mM, hR'⟩ := s_nth (l := l) (D := D) (N := 40000) (zb := zb) (zv := zv) (Nat.le_refl _) hR (xs (nI i + 1).toNatClampNeg) (xs (nI i + 2).toNatClampNeg)
  obtain ⟨fx, ex⟩ := RW_x hR
  obtain ⟨fm, em⟩ := RW_m hR
  refine lv_aload_n hx hb dL_law_473 rfl (lv_at hl 1 rfl) ?_
  refine lv_aload_n hx hb dL_law_474 rfl (lv_at hl 0 rfl) ?_
  refine lv_iload_n hx hb dL_law_475 rfl (lv_at hl 3 rfl) ?_
  refine lv_iconst (v := 1) hx hb dL_law_476 (by decide) ?_
  refine lv_iadd hx hb dL_law_477 ?_
  refine va_sld hx hb hX hbl hbA hS hi1 dL_law_478 ?_
  refine lv_aload_n hx hb dL_law_479 rfl (lv_at hl 0 rfl) ?_
  refine lv_iload_n hx hb dL_law_480 rfl (lv_at hl 3 rfl) ?_
  refine lv_iconst (v := 2) hx hb dL_law_481 (by decide) ?_
  refine lv_iadd hx hb dL_law_482 ?_
  refine va_sld hx hb hX hbl hbA hS hi2 dL_law_483 ?_
  refine lcI (As := [.int (xs (nI i + 1).toNatClampNeg), .int (xs (nI i + 2).toNatClampNeg)]) (rest := []) ⟨hx, hb, hml, hown, hts⟩ mX (cwV 2 hts (gLV wm_485 wm_486 wm_487 wm_2 wm_488) rfl rfl rfl qd_X10_nth ⟨(Nat.le_of_ble_eq_true rfl), (Nat.le_of_ble_eq_true rfl)⟩) hZ hK hP hD hS hA ex rfl rfl hl.1 rfl (Nat.le_of_ble_eq_true rfl) dL_law_484 ⟨Nat.le_refl _, Nat.le_refl _⟩ (fun H locs hP hD hS => ?_)
  refine lv_aload_n hx hb dL_law_487 rfl (lv_at hl 2 rfl) ?_
  refine lv_aload_n hx hb dL_law_488 rfl (lv_at hl 0 rfl) ?_
  refine lv_iload_n hx hb dL_law_489 rfl (lv_at hl 3 rfl) ?_
  refine lv_iconst (v := 1) hx hb dL_law_490 (by decide) ?_
  refine lv_iadd hx hb dL_law_491 ?_
  refine va_sld hx hb hX hbl hbA hS hi1 dL_law_492 ?_
  refine lv_aload_n hx hb dL_law_493 rfl (lv_at hl 0 rfl) ?_
  refine lv_iload_n hx hb dL_law_494 rfl (lv_at hl 3 rfl) ?_
  refine lv_iconst (v := 2) hx hb dL_law_495 (by decide) ?_
  refine lv_iadd hx hb dL_law_496 ?_
  refine va_sld hx hb hX hbl hbA hS hi2 dL_law_497 ?_
  refine lcI (As := [.int (xs (nI i + 1).toNatClampNeg), .int (xs (nI i + 2).toNatClampNeg)]) (rest := [.int r]) ⟨hx, hb, hml, hown, hts⟩ mM (cwV 2 hts (gLV wm_489 wm_490 wm_491 wm_5 wm_492) rfl rfl rfl qd_X11_nth ⟨(Nat.le_of_ble_eq_true rfl), (Nat.le_of_ble_eq_true rfl)⟩) hZ hK hP hD hS hA em rfl rfl hl.1 rfl (Nat.le_of_ble_eq_true rfl) dL_law_498 ⟨Nat.le_refl _, Nat.le_refl _⟩ (fun H locs hP hD hS => ?_)
  refine lv_icmp_eq (tgt := 1282) hx hb dL_law_501 (by decide) (fun _ => ?_) (fun c9 => absurd rfl c9)
  exact nx WX' WM' H locs ls hR' hP hD hS hl
set_option maxHeartbeats 4000000 in
set_option maxRecDepth 100000 in
theorem lk_share {p : Program} {l : Launch} {e : Env} {s : State} {m : MethodId} {below : List Frame} {meth : Method} {c : Code} {b L : Nat} {xs : Nat → Int32} (C0 : lw_At p s m meth c b L xs) {D : va_G} {k : Nat → ClassId} {ax am : Nat → Nat} {zb zv i : Nat} (hi : i + 6 ≤ L) (hL : L ≤ 3072) (hZ : zS zb zv (fun q : Nat => s.heap.size ≤ q) s s.heap) (hK : va_K D vwCl (xTys k) s) {WX WM : va_W} (hR : RW k ax am WX WM) {H : Heap} {locs : List Loc} (hP : va_P D vwCl (WX ++ WM) H) (hD : va_D (fun q : Nat => s.heap.size ≤ q) (WX ++ WM)) (hS : va_S (fun q : Nat => s.heap.size ≤ q) s.heap H locs) {ls : Array Slot} (hl : lv_has ls 4 [(0, .ref b), (1, .ref (ax 0)), (2, .ref (am 0)), (3, .int (nI i))]) (nx : lwNext p l e s m below meth c b D k ax am i) : W p l e room_1 s m #[Value.ref b] below meth c H locs 600000 7302250 (lw_Z below #[Value.ref b] s) (F0 m 506 ls []) := by
  obtain ⟨hx, hb, hr, hml, hown, hts, hX, hbl, hlocks, hgv⟩ := C0
  have hb : c.code = cL_law := hb
  have hown : s.vm.findClass RL = some m.cls := hown
  have hA : ∀ q : Nat, s.heap.size ≤ q → (fun q : Nat => s.heap.size ≤ q) q := fun _ h => h
  have hbA : ¬ (fun q : Nat => s.heap.size ≤ q) b := Nat.not_le.mpr hbl
  have hi1 : vp_in (nI i + 1) L := lw_in 1 hi hL (by decide)
  have hi2 : vp_in (nI i + 2) L := lw_in 2 hi hL (by decide)
  obtain ⟨r, WX', WM', mX, mM, hR'⟩ := s_share (l := l) (D := D) (N := 40000) (Nat.le_refl _) hR (xs (nI i + 1).toNatClampNeg) (xs (nI i + 2).toNatClampNeg)
  obtain ⟨fx, ex⟩ := RW_x hR
  obtain ⟨fm, em⟩ := RW_m hR
  refine lv_aload_n hx hb dL_law_506 rfl (lv_at hl 1 rfl) ?_
  refine lv_aload_n hx hb dL_law_507 rfl (lv_at hl 0 rfl) ?_
  refine lv_iload_n hx hb dL_law_508 rfl (lv_at hl 3 rfl) ?_
  refine lv_iconst (v := 1) hx hb dL_law_509 (by decide) ?_
  refine lv_iadd hx hb dL_law_510 ?_
  refine va_sld hx hb hX hbl hbA hS hi1 dL_law_511 ?_
  refine lv_aload_n hx hb dL_law_512 rfl (lv_at hl 0 rfl) ?_
  refine lv_iload_n hx hb dL_law_513 rfl (lv_at hl 3 rfl) ?_
  refine lv_iconst (v := 2) hx hb dL_law_514 (by decide) ?_
  refine lv_iadd hx hb dL_law_515 ?_
  refine va_sld hx hb hX hbl hbA hS hi2 dL_law_516 ?_
  refine lcL (As := [.int (xs (nI i + 1).toNatClampNeg), .int (xs (nI i + 2).toNatClampNeg)]) (rest := []) ⟨hx, hb, hml, hown, hts⟩ mX (cwV 2 hts (gLV wm_493 wm_494 wm_495 wm_2 wm_496) rfl rfl rfl qd_X10_share ⟨(Nat.le_of_ble_eq_true rfl), (Nat.le_of_ble_eq_true rfl)⟩) hK hP hD hS hA ex rfl rfl hl.1 rfl (Nat.le_of_ble_eq_true rfl) dL_law_517 ⟨Nat.le_refl _, Nat.le_refl _⟩ (fun H locs hP hD hS => ?_)
  refine lv_aload_n hx hb dL_law_520 rfl (lv_at hl 2 rfl) ?_
  refine lv_aload_n hx hb dL_law_521 rfl (lv_at hl 0 rfl) ?_
  refine lv_iload_n hx hb dL_law_522 rfl (lv_at hl 3 rfl) ?_
  refine lv_iconst (v := 1) hx hb dL_law_523 (by decide) ?_
  refine lv_iadd hx hb dL_law_524 ?_
  refine va_sld hx hb hX hbl hbA hS hi1 dL_law_525 ?_
  refine lv_aload_n hx hb dL_law_526 rfl (lv_at hl 0 rfl) ?_
  refine lv_iload_n hx hb dL_law_527 rfl (lv_at hl 3 rfl) ?_
  refine lv_iconst (v := 2) hx hb dL_law_528 (by decide) ?_
  refine lv_iadd hx hb dL_law_529 ?_
  refine va_sld hx hb hX hbl hbA hS hi2 dL_law_530 ?_
  refine lcL (As := [.int (xs (nI i + 1).toNatClampNeg), .int (xs (nI i + 2).toNatClampNeg)]) (rest := [.long r]) ⟨hx, hb, hml, hown, hts⟩ mM (cwV 2 hts (gLV wm_518 wm_519 wm_520 wm_5 wm_521) rfl rfl rfl qd_X11_share ⟨(Nat.le_of_ble_eq_true rfl), (Nat.le_of_ble_eq_true rfl)⟩) hK hP hD hS hA em rfl rfl hl.1 rfl (Nat.le_of_ble_eq_true rfl) dL_law_531 ⟨Nat.le_refl _, Nat.le_refl _⟩ (fun H locs hP hD hS => ?_)
  refine lw_lc hx hb dL_law_534 ?_
  refine lv_if_eq (tgt := 1282) hx hb dL_law_535 (by decide) (fun _ => ?_) (fun c9 => absurd rfl c9)
  exact nx WX' WM' H locs ls hR' hP hD hS hl
set_option maxHeartbeats 4000000 in
set_option maxRecDepth 100000 in
theorem lk_fills {p : Program} {l : Launch} {e : Env} {s : State} {m : MethodId} {below : List Frame} {meth : Method} {c : Code} {b L : Nat} {xs : Nat → Int32} (C0 : lw_At p s m meth c b L xs) {D : va_G} {k : Nat → ClassId} {ax am : Nat → Nat} {zb zv i : Nat} (hi : i + 6 ≤ L) (hL : L ≤ 3072) (hZ : zS zb zv (fun q : Nat => s.heap.size ≤ q) s s.heap) (hK : va_K D vwCl (xTys k) s) {WX WM : va_W} (hR : RW k ax am WX WM) {H : Heap} {locs : List Loc} (hP : va_P D vwCl (WX ++ WM) H) (hD : va_D (fun q : Nat => s.heap.size ≤ q) (WX ++ WM)) (hS : va_S (fun q : Nat => s.heap.size ≤ q) s.heap H locs) {ls : Array Slot} (hl : lv_has ls 4 [(0, .ref b), (1, .ref (ax 0)), (2, .ref (am 0)), (3, .int (nI i))]) (nx : lwNext p l e s m below meth c b D k ax am i) : W p l e room_1 s m #[Value.ref b] below meth c H locs 600000 7302250 (lw_Z below #[Value.ref b] s) (F0 m 540 ls []) := by
  obtain ⟨hx, hb, hr, hml, hown, hts, hX, hbl, hlocks, hgv⟩ := C0
  have hb : c.code = cL_law := hb
  have hown : s.vm.findClass RL = some m.cls := hown
  have hA : ∀ q : Nat, s.heap.size ≤ q → (fun q : Nat => s.heap.size ≤ q) q := fun _ h => h
  have hbA : ¬ (fun q : Nat => s.heap.size ≤ q) b := Nat.not_le.mpr hbl
  have hi1 : vp_in (nI i + 1) L := lw_in 1 hi hL (by decide)
  have hi2 : vp_in (nI i + 2) L := lw_in 2 hi hL (by decide)
  obtain ⟨r, WX', WM', mX, mM, hR'⟩ := s_fills (l := l) (D := D) (N := 40000) (zb := zb) (zv := zv) (Nat.le_refl _) hR (xs (nI i + 1).toNatClampNeg) (xs (nI i + 2).toNatClampNeg)
  obtain ⟨fx, ex⟩ := RW_x hR
  obtain ⟨fm, em⟩ := RW_m hR
  refine lv_aload_n hx hb dL_law_540 rfl (lv_at hl 1 rfl) ?_
  refine lv_aload_n hx hb dL_law_541 rfl (lv_at hl 0 rfl) ?_
  refine lv_iload_n hx hb dL_law_542 rfl (lv_at hl 3 rfl) ?_
  refine lv_iconst (v := 1) hx hb dL_law_543 (by decide) ?_
  refine lv_iadd hx hb dL_law_544 ?_
  refine va_sld hx hb hX hbl hbA hS hi1 dL_law_545 ?_
  refine lv_aload_n hx hb dL_law_546 rfl (lv_at hl 0 rfl) ?_
  refine lv_iload_n hx hb dL_law_547 rfl (lv_at hl 3 rfl) ?_
  refine lv_iconst (v := 2) hx hb dL_law_548 (by decide) ?_
  refine lv_iadd hx hb dL_law_549 ?_
  refine va_sld hx hb hX hbl hbA hS hi2 dL_law_550 ?_
  refine lcI (As := [.int (xs (nI i + 1).toNatClampNeg), .int (xs (nI i + 2).toNatClampNeg)]) (rest := []) ⟨hx, hb, hml, hown, hts⟩ mX (cwV 2 hts (gLV wm_533 wm_534 wm_535 wm_2 wm_536) rfl rfl rfl qd_X10_fills ⟨(Nat.le_of_ble_eq_true rfl), (Nat.le_of_ble_eq_true rfl)⟩) hZ hK hP hD hS hA ex rfl rfl hl.1 rfl (Nat.le_of_ble_eq_true rfl) dL_law_551 ⟨Nat.le_refl _, Nat.le_refl _⟩ (fun H locs hP hD hS => ?_)
  refine lv_aload_n hx hb dL_law_554 rfl (lv_at hl 2 rfl) ?_
  refine lv_aload_n hx hb dL_law_555 rfl (lv_at hl 0 rfl) ?_
  refine lv_iload_n hx hb dL_law_556 rfl (lv_at hl 3 rfl) ?_
  refine lv_iconst (v := 1) hx hb dL_law_557 (by decide) ?_
  refine lv_iadd hx hb dL_law_558 ?_
  refine va_sld hx hb hX hbl hbA hS hi1 dL_law_559 ?_
  refine lv_aload_n hx hb dL_law_560 rfl (lv_at hl 0 rfl) ?_
  refine lv_iload_n hx hb dL_law_561 rfl (lv_at hl 3 rfl) ?_
  refine lv_iconst (v := 2) hx hb dL_law_562 (by decide) ?_
  refine lv_iadd hx hb dL_law_563 ?_
  refine va_sld hx hb hX hbl hbA hS hi2 dL_law_564 ?_
  refine lcI (As := [.int (xs (nI i + 1).toNatClampNeg), .int (xs (nI i + 2).toNatClampNeg)]) (rest := [.int r]) ⟨hx, hb, hml, hown, hts⟩ mM (cwV 2 hts (gLV wm_551 wm_552 wm_553 wm_5 wm_554) rfl rfl rfl qd_X11_fills ⟨(Nat.le_of_ble_eq_true rfl), (Nat.le_of_ble_eq_true rfl)⟩) hZ hK hP hD hS hA em rfl rfl hl.1 rfl (Nat.le_of_ble_eq_true rfl) dL_law_565 ⟨Nat.le_refl _, Nat.le_refl _⟩ (fun H locs hP hD hS => ?_)
  refine lv_icmp_eq (tgt := 1282) hx hb dL_law_568 (by decide) (fun _ => ?_) (fun c9 => absurd rfl c9)
  exact nx WX' WM' H locs ls hR' hP hD hS hl
set_option maxHeartbeats 4000000 in
set_option maxRecDepth 100000 in
theorem lk_filled {p : Program} {l : Launch} {e : Env} {s : State} {m : MethodId} {below : List Frame} {meth : Method} {c : Code} {b L : Nat} {xs : Nat → Int32} (C0 : lw_At p s m meth c b L xs) {D : va_G} {k : Nat → ClassId} {ax am : Nat → Nat} {zb zv i : Nat} (hi : i + 6 ≤ L) (hL : L ≤ 3072) (hZ : zS zb zv (fun q : Nat => s.heap.size ≤ q) s s.heap) (hK : va_K D vwCl (xTys k) s) {WX WM : va_W} (hR : RW k ax am WX WM) {H : Heap} {locs : List Loc} (hP : va_P D vwCl (WX ++ WM) H) (hD : va_D (fun q : Nat => s.heap.size ≤ q) (WX ++ WM)) (hS : va_S (fun q : Nat => s.heap.size ≤ q) s.heap H locs) {ls : Array Slot} (hl : lv_has ls 4 [(0, .ref b), (1, .ref (ax 0)), (2, .ref (am 0)), (3, .int (nI i))]) (nx : lwNext p l e s m below meth c b D k ax am i) : W p l e room_1 s m #[Value.ref b] below meth c H locs 600000 7302250 (lw_Z below #[Value.ref b] s) (F0 m 573 ls []) := by
  obtain ⟨hx, hb, hr, hml, hown, hts, hX, hbl, hlocks, hgv⟩ := C0
  have hb : c.code = cL_law := hb
  have hown : s.vm.findClass RL = some m.cls := hown
  have hA : ∀ q : Nat, s.heap.size ≤ q → (fun q : Nat => s.heap.size ≤ q) q := fun _ h => h
  have hbA : ¬ (fun q : Nat => s.heap.size ≤ q) b := Nat.not_le.mpr hbl
  have hi1 : vp_in (nI i + 1) L := lw_in 1 hi hL (by decide)
  have hi2 : vp_in (nI i + 2) L := lw_in 2 hi hL (by decide)
  obtain ⟨r, WX', WM', mX, mM, hR'⟩ := s_filled (l := l) (D := D) (N := 40000) (Nat.le_refl _) hR (xs (nI i + 1).toNatClampNeg) (xs (nI i + 2).toNatClampNeg)
  obtain ⟨fx, ex⟩ := RW_x hR
  obtain ⟨fm, em⟩ := RW_m hR
  refine lv_aload_n hx hb dL_law_573 rfl (lv_at hl 1 rfl) ?_
  refine lv_aload_n hx hb dL_law_574 rfl (lv_at hl 0 rfl) ?_
  refine lv_iload_n hx hb dL_law_575 rfl (lv_at hl 3 rfl) ?_
  refine lv_iconst (v := 1) hx hb dL_law_576 (by decide) ?_
  refine lv_iadd hx hb dL_law_577 ?_
  refine va_sld hx hb hX hbl hbA hS hi1 dL_law_578 ?_
  refine lv_aload_n hx hb dL_law_579 rfl (lv_at hl 0 rfl) ?_
  refine lv_iload_n hx hb dL_law_580 rfl (lv_at hl 3 rfl) ?_
  refine lv_iconst (v := 2) hx hb dL_law_581 (by decide) ?_
  refine lv_iadd hx hb dL_law_582 ?_
  refine va_sld hx hb hX hbl hbA hS hi2 dL_law_583 ?_
  refine lcL (As := [.int (xs (nI i + 1).toNatClampNeg), .int (xs (nI i + 2).toNatClampNeg)]) (rest := []) ⟨hx, hb, hml, hown, hts⟩ mX (cwV 2 hts (gLV wm_564 wm_565 wm_566 wm_2 wm_567) rfl rfl rfl qd_X10_filled ⟨(Nat.le_of_ble_eq_true rfl), (Nat.le_of_ble_eq_true rfl)⟩) hK hP hD hS hA ex rfl rfl hl.1 rfl (Nat.le_of_ble_eq_true rfl) dL_law_584 ⟨Nat.le_refl _, Nat.le_refl _⟩ (fun H locs hP hD hS => ?_)
  refine lv_aload_n hx hb dL_law_587 rfl (lv_at hl 2 rfl) ?_
  refine lv_aload_n hx hb dL_law_588 rfl (lv_at hl 0 rfl) ?_
  refine lv_iload_n hx hb dL_law_589 rfl (lv_at hl 3 rfl) ?_
  refine lv_iconst (v := 1) hx hb dL_law_590 (by decide) ?_
  refine lv_iadd hx hb dL_law_591 ?_
  refine va_sld hx hb hX hbl hbA hS hi1 dL_law_592 ?_
  refine lv_aload_n hx hb dL_law_593 rfl (lv_at hl 0 rfl) ?_
  refine lv_iload_n hx hb dL_law_594 rfl (lv_at hl 3 rfl) ?_
  refine lv_iconst (v := 2) hx hb dL_law_595 (by decide) ?_
  refine lv_iadd hx hb dL_law_596 ?_
  refine va_sld hx hb hX hbl hbA hS hi2 dL_law_597 ?_
  refine lcL (As := [.int (xs (nI i + 1).toNatClampNeg), .int (xs (nI i + 2).toNatClampNeg)]) (rest := [.long r]) ⟨hx, hb, hml, hown, hts⟩ mM (cwV 2 hts (gLV wm_568 wm_569 wm_570 wm_5 wm_571) rfl rfl rfl qd_X11_filled ⟨(Nat.le_of_ble_eq_true rfl), (Nat.le_of_ble_eq_true rfl)⟩) hK hP hD hS hA em rfl rfl hl.1 rfl (Nat.le_of_ble_eq_true rfl) dL_law_598 ⟨Nat.le_refl _, Nat.le_refl _⟩ (fun H locs hP hD hS => ?_)
  refine lw_lc hx hb dL_law_601 ?_
  refine lv_if_eq (tgt := 1282) hx hb dL_law_602 (by decide) (fun _ => ?_) (fun c9 => absurd rfl c9)
  exact nx WX' WM' H locs ls hR' hP hD hS hl
set_option maxHeartbeats 4000000 in
set_option maxRecDepth 100000 in
theorem lk_sure {p : Program} {l : Launch} {e : Env} {s : State} {m : MethodId} {below : List Frame} {meth : Method} {c : Code} {b L : Nat} {xs : Nat → Int32} (C0 : lw_At p s m meth c b L xs) {D : va_G} {k : Nat → ClassId} {ax am : Nat → Nat} {zb zv i : Nat} (hi : i + 6 ≤ L) (hL : L ≤ 3072) (hZ : zS zb zv (fun q : Nat => s.heap.size ≤ q) s s.heap) (hK : va_K D vwCl (xTys k) s) {WX WM : va_W} (hR : RW k ax am WX WM) {H : Heap} {locs : List Loc} (hP : va_P D vwCl (WX ++ WM) H) (hD : va_D (fun q : Nat => s.heap.size ≤ q) (WX ++ WM)) (hS : va_S (fun q : Nat => s.heap.size ≤ q) s.heap H locs) {ls : Array Slot} (hl : lv_has ls 4 [(0, .ref b), (1, .ref (ax 0)), (2, .ref (am 0)), (3, .int (nI i))]) (nx : lwNext p l e s m below meth c b D k ax am i) : W p l e room_1 s m #[Value.ref b] below meth c H locs 600000 7302250 (lw_Z below #[Value.ref b] s) (F0 m 607 ls []) := by
  obtain ⟨hx, hb, hr, hml, hown, hts, hX, hbl, hlocks, hgv⟩ := C0
  have hb : c.code = cL_law := hb
  have hown : s.vm.findClass RL = some m.cls := hown
  have hA : ∀ q : Nat, s.heap.size ≤ q → (fun q : Nat => s.heap.size ≤ q) q := fun _ h => h
  have hbA : ¬ (fun q : Nat => s.heap.size ≤ q) b := Nat.not_le.mpr hbl
  have hi1 : vp_in (nI i + 1) L := lw_in 1 hi hL (by decide)
  have hi2 : vp_in (nI i + 2) L := lw_in 2 hi hL (by decide)
  obtain ⟨r, WX', WM', mX, mM, hR'⟩ := s_sure (l := l) (D := D) (N := 40000) (zb := zb) (zv := zv) (Nat.le_refl _) hR (xs (nI i + 1).toNatClampNeg) (xs (nI i + 2).toNatClampNeg)
  obtain ⟨fx, ex⟩ := RW_x hR
  obtain ⟨fm, em⟩ := RW_m hR
  refine lv_aload_n hx hb dL_law_607 rfl (lv_at hl 1 rfl) ?_
  refine lv_aload_n hx hb dL_law_608 rfl (lv_at hl 0 rfl) ?_
  refine lv_iload_n hx hb dL_law_609 rfl (lv_at hl 3 rfl) ?_
  refine lv_iconst (v := 1) hx hb dL_law_610 (by decide) ?_
  refine lv_iadd hx hb dL_law_611 ?_
  refine va_sld hx hb hX hbl hbA hS hi1 dL_law_612 ?_
  refine lv_aload_n hx hb dL_law_613 rfl (lv_at hl 0 rfl) ?_
  refine lv_iload_n hx hb dL_law_614 rfl (lv_at hl 3 rfl) ?_
  refine lv_iconst (v := 2) hx hb dL_law_615 (by decide) ?_
  refine lv_iadd hx hb dL_law_616 ?_
  refine va_sld hx hb hX hbl hbA hS hi2 dL_law_617 ?_
  refine lcI (As := [.int (xs (nI i + 1).toNatClampNeg), .int (xs (nI i + 2).toNatClampNeg)]) (rest := []) ⟨hx, hb, hml, hown, hts⟩ mX (cwV 2 hts (gLV wm_572 wm_573 wm_574 wm_2 wm_575) rfl rfl rfl qd_X10_sure ⟨(Nat.le_of_ble_eq_true rfl), (Nat.le_of_ble_eq_true rfl)⟩) hZ hK hP hD hS hA ex rfl rfl hl.1 rfl (Nat.le_of_ble_eq_true rfl) dL_law_618 ⟨Nat.le_refl _, Nat.le_refl _⟩ (fun H locs hP hD hS => ?_)
  refine lv_aload_n hx hb dL_law_621 rfl (lv_at hl 2 rfl) ?_
  refine lv_aload_n hx hb dL_law_622 rfl (lv_at hl 0 rfl) ?_
  refine lv_iload_n hx hb dL_law_623 rfl (lv_at hl 3 rfl) ?_
  refine lv_iconst (v := 1) hx hb dL_law_624 (by decide) ?_
  refine lv_iadd hx hb dL_law_625 ?_
  refine va_sld hx hb hX hbl hbA hS hi1 dL_law_626 ?_
  refine lv_aload_n hx hb dL_law_627 rfl (lv_at hl 0 rfl) ?_
  refine lv_iload_n hx hb dL_law_628 rfl (lv_at hl 3 rfl) ?_
  refine lv_iconst (v := 2) hx hb dL_law_629 (by decide) ?_
  refine lv_iadd hx hb dL_law_630 ?_
  refine va_sld hx hb hX hbl hbA hS hi2 dL_law_631 ?_
  refine lcI (As := [.int (xs (nI i + 1).toNatClampNeg), .int (xs (nI i + 2).toNatClampNeg)]) (rest := [.int r]) ⟨hx, hb, hml, hown, hts⟩ mM (cwV 2 hts (gLV wm_578 wm_579 wm_580 wm_5 wm_581) rfl rfl rfl qd_X11_sure ⟨(Nat.le_of_ble_eq_true rfl), (Nat.le_of_ble_eq_true rfl)⟩) hZ hK hP hD hS hA em rfl rfl hl.1 rfl (Nat.le_of_ble_eq_true rfl) dL_law_632 ⟨Nat.le_refl _, Nat.le_refl _⟩ (fun H locs hP hD hS => ?_)
  refine lv_icmp_eq (tgt := 1282) hx hb dL_law_635 (by decide) (fun _ => ?_) (fun c9 => absurd rfl c9)
  exact nx WX' WM' H locs ls hR' hP hD hS hl
set_option maxHeartbeats 4000000 in
set_option maxRecDepth 100000 in
theorem lk_dealt {p : Program} {l : Launch} {e : Env} {s : State} {m : MethodId} {below : List Frame} {meth : Method} {c : Code} {b L : Nat} {xs : Nat → Int32} (C0 : lw_At p s m meth c b L xs) {D : va_G} {k : Nat → ClassId} {ax am : Nat → Nat} {zb zv i : Nat} (hi : i + 6 ≤ L) (hL : L ≤ 3072) (hZ : zS zb zv (fun q : Nat => s.heap.size ≤ q) s s.heap) (hK : va_K D vwCl (xTys k) s) {WX WM : va_W} (hR : RW k ax am WX WM) {H : Heap} {locs : List Loc} (hP : va_P D vwCl (WX ++ WM) H) (hD : va_D (fun q : Nat => s.heap.size ≤ q) (WX ++ WM)) (hS : va_S (fun q : Nat => s.heap.size ≤ q) s.heap H locs) {ls : Array Slot} (hl : lv_has ls 4 [(0, .ref b), (1, .ref (ax 0)), (2, .ref (am 0)), (3, .int (nI i))]) (nx : lwNext p l e s m below meth c b D k ax am i) : W p l e room_1 s m #[Value.ref b] below meth c H locs 600000 7302250 (lw_Z below #[Value.ref b] s) (F0 m 640 ls []) := by
  obtain ⟨hx, hb, hr, hml, hown, hts, hX, hbl, hlocks, hgv⟩ := C0
  have hb : c.code = cL_law := hb
  have hown : s.vm.findClass RL = some m.cls := hown
  have hA : ∀ q : Nat, s.heap.size ≤ q → (fun q : Nat => s.heap.size ≤ q) q := fun _ h => h
  have hbA : ¬ (fun q : Nat => s.heap.size ≤ q) b := Nat.not_le.mpr hbl
  have hi1 : vp_in (nI i + 1) L := lw_in 1 hi hL (by decide)
  have hi2 : vp_in (nI i + 2) L := lw_in 2 hi hL (by decide)
  have hi3 : vp_in (nI i + 3) L := lw_in 3 hi hL (by decide)
  by_cases h3 : xs (nI i + 3).toNatClampNeg = 0
  · obtain ⟨r, WX', WM', mX, mM, hR'⟩ := s_dealt (l := l) (D := D) (N := 40000) (zb := zb) (zv := zv) (Nat.le_refl _) hR (xs (nI i + 1).toNatClampNeg) (xs (nI i + 2).toNatClampNeg) 0
    obtain ⟨fx, ex⟩ := RW_x hR
    obtain ⟨fm, em⟩ := RW_m hR
    refine lv_aload_n hx hb dL_law_640 rfl (lv_at hl 1 rfl) ?_
    refine lv_aload_n hx hb dL_law_641 rfl (lv_at hl 0 rfl) ?_
    refine lv_iload_n hx hb dL_law_642 rfl (lv_at hl 3 rfl) ?_
    refine lv_iconst (v := 1) hx hb dL_law_643 (by decide) ?_
    refine lv_iadd hx hb dL_law_644 ?_
    refine va_sld hx hb hX hbl hbA hS hi1 dL_law_645 ?_
    refine lv_aload_n hx hb dL_law_646 rfl (lv_at hl 0 rfl) ?_
    refine lv_iload_n hx hb dL_law_647 rfl (lv_at hl 3 rfl) ?_
    refine lv_iconst (v := 2) hx hb dL_law_648 (by decide) ?_
    refine lv_iadd hx hb dL_law_649 ?_
    refine va_sld hx hb hX hbl hbA hS hi2 dL_law_650 ?_
    refine lv_aload_n hx hb dL_law_651 rfl (lv_at hl 0 rfl) ?_
    refine lv_iload_n hx hb dL_law_652 rfl (lv_at hl 3 rfl) ?_
    refine lv_iconst (v := 3) hx hb dL_law_653 (by decide) ?_
    refine lv_iadd hx hb dL_law_654 ?_
    refine va_sld hx hb hX hbl hbA hS hi3 dL_law_655 ?_
    refine lv_if_eq (tgt := 663) hx hb dL_law_656 (by decide) (fun _ => ?_) (fun c9 => absurd h3 c9)
    refine lv_iconst (v := 0) hx hb dL_law_663 (by decide) ?_
    refine lcI (As := [.int (xs (nI i + 1).toNatClampNeg), .int (xs (nI i + 2).toNatClampNeg), .int 0]) (rest := []) ⟨hx, hb, hml, hown, hts⟩ mX (cwV 3 hts (gLV wm_582 wm_583 wm_584 wm_2 wm_585) rfl rfl rfl qd_X10_dealt ⟨(Nat.le_of_ble_eq_true rfl), (Nat.le_of_ble_eq_true rfl)⟩) hZ hK hP hD hS hA ex rfl rfl hl.1 rfl (Nat.le_of_ble_eq_true rfl) dL_law_664 ⟨Nat.le_refl _, Nat.le_refl _⟩ (fun H locs hP hD hS => ?_)
    refine lv_aload_n hx hb dL_law_667 rfl (lv_at hl 2 rfl) ?_
    refine lv_aload_n hx hb dL_law_668 rfl (lv_at hl 0 rfl) ?_
    refine lv_iload_n hx hb dL_law_669 rfl (lv_at hl 3 rfl) ?_
    refine lv_iconst (v := 1) hx hb dL_law_670 (by decide) ?_
    refine lv_iadd hx hb dL_law_671 ?_
    refine va_sld hx hb hX hbl hbA hS hi1 dL_law_672 ?_
    refine lv_aload_n hx hb dL_law_673 rfl (lv_at hl 0 rfl) ?_
    refine lv_iload_n hx hb dL_law_674 rfl (lv_at hl 3 rfl) ?_
    refine lv_iconst (v := 2) hx hb dL_law_675 (by decide) ?_
    refine lv_iadd hx hb dL_law_676 ?_
    refine va_sld hx hb hX hbl hbA hS hi2 dL_law_677 ?_
    refine lv_aload_n hx hb dL_law_678 rfl (lv_at hl 0 rfl) ?_
    refine lv_iload_n hx hb dL_law_679 rfl (lv_at hl 3 rfl) ?_
    refine lv_iconst (v := 3) hx hb dL_law_680 (by decide) ?_
    refine lv_iadd hx hb dL_law_681 ?_
    refine va_sld hx hb hX hbl hbA hS hi3 dL_law_682 ?_
    refine lv_if_eq (tgt := 690) hx hb dL_law_683 (by decide) (fun _ => ?_) (fun c9 => absurd h3 c9)
    refine lv_iconst (v := 0) hx hb dL_law_690 (by decide) ?_
    refine lcI (As := [.int (xs (nI i + 1).toNatClampNeg), .int (xs (nI i + 2).toNatClampNeg), .int 0]) (rest := [.int r]) ⟨hx, hb, hml, hown, hts⟩ mM (cwV 3 hts (gLV wm_607 wm_608 wm_609 wm_5 wm_610) rfl rfl rfl qd_X11_dealt ⟨(Nat.le_of_ble_eq_true rfl), (Nat.le_of_ble_eq_true rfl)⟩) hZ hK hP hD hS hA em rfl rfl hl.1 rfl (Nat.le_of_ble_eq_true rfl) dL_law_691 ⟨Nat.le_refl _, Nat.le_refl _⟩ (fun H locs hP hD hS => ?_)
    refine lv_icmp_eq (tgt := 1282) hx hb dL_law_694 (by decide) (fun _ => ?_) (fun c9 => absurd rfl c9)
    exact nx WX' WM' H locs ls hR' hP hD hS hl
  · obtain ⟨r, WX', WM', mX, mM, hR'⟩ := s_dealt (l := l) (D := D) (N := 40000) (zb := zb) (zv := zv) (Nat.le_refl _) hR (xs (nI i + 1).toNatClampNeg) (xs (nI i + 2).toNatClampNeg) 1
    obtain ⟨fx, ex⟩ := RW_x hR
    obtain ⟨fm, em⟩ := RW_m hR
    refine lv_aload_n hx hb dL_law_640 rfl (lv_at hl 1 rfl) ?_
    refine lv_aload_n hx hb dL_law_641 rfl (lv_at hl 0 rfl) ?_
    refine lv_iload_n hx hb dL_law_642 rfl (lv_at hl 3 rfl) ?_
    refine lv_iconst (v := 1) hx hb dL_law_643 (by decide) ?_
    refine lv_iadd hx hb dL_law_644 ?_
    refine va_sld hx hb hX hbl hbA hS hi1 dL_law_645 ?_
    refine lv_aload_n hx hb dL_law_646 rfl (lv_at hl 0 rfl) ?_
    refine lv_iload_n hx hb dL_law_647 rfl (lv_at hl 3 rfl) ?_
    refine lv_iconst (v := 2) hx hb dL_law_648 (by decide) ?_
    refine lv_iadd hx hb dL_law_649 ?_
    refine va_sld hx hb hX hbl hbA hS hi2 dL_law_650 ?_
    refine lv_aload_n hx hb dL_law_651 rfl (lv_at hl 0 rfl) ?_
    refine lv_iload_n hx hb dL_law_652 rfl (lv_at hl 3 rfl) ?_
    refine lv_iconst (v := 3) hx hb dL_law_653 (by decide) ?_
    refine lv_iadd hx hb dL_law_654 ?_
    refine va_sld hx hb hX hbl hbA hS hi3 dL_law_655 ?_
    refine lv_if_eq (tgt := 663) hx hb dL_law_656 (by decide) (fun c9 => absurd c9 h3) (fun _ => ?_)
    refine lv_iconst (v := 1) hx hb dL_law_659 (by decide) ?_
    refine lv_goto (tgt := 664) hx hb dL_law_660 (by decide) ?_
    refine lcI (As := [.int (xs (nI i + 1).toNatClampNeg), .int (xs (nI i + 2).toNatClampNeg), .int 1]) (rest := []) ⟨hx, hb, hml, hown, hts⟩ mX (cwV 3 hts (gLV wm_582 wm_583 wm_584 wm_2 wm_585) rfl rfl rfl qd_X10_dealt ⟨(Nat.le_of_ble_eq_true rfl), (Nat.le_of_ble_eq_true rfl)⟩) hZ hK hP hD hS hA ex rfl rfl hl.1 rfl (Nat.le_of_ble_eq_true rfl) dL_law_664 ⟨Nat.le_refl _, Nat.le_refl _⟩ (fun H locs hP hD hS => ?_)
    refine lv_aload_n hx hb dL_law_667 rfl (lv_at hl 2 rfl) ?_
    refine lv_aload_n hx hb dL_law_668 rfl (lv_at hl 0 rfl) ?_
    refine lv_iload_n hx hb dL_law_669 rfl (lv_at hl 3 rfl) ?_
    refine lv_iconst (v := 1) hx hb dL_law_670 (by decide) ?_
    refine lv_iadd hx hb dL_law_671 ?_
    refine va_sld hx hb hX hbl hbA hS hi1 dL_law_672 ?_
    refine lv_aload_n hx hb dL_law_673 rfl (lv_at hl 0 rfl) ?_
    refine lv_iload_n hx hb dL_law_674 rfl (lv_at hl 3 rfl) ?_
    refine lv_iconst (v := 2) hx hb dL_law_675 (by decide) ?_
    refine lv_iadd hx hb dL_law_676 ?_
    refine va_sld hx hb hX hbl hbA hS hi2 dL_law_677 ?_
    refine lv_aload_n hx hb dL_law_678 rfl (lv_at hl 0 rfl) ?_
    refine lv_iload_n hx hb dL_law_679 rfl (lv_at hl 3 rfl) ?_
    refine lv_iconst (v := 3) hx hb dL_law_680 (by decide) ?_
    refine lv_iadd hx hb dL_law_681 ?_
    refine va_sld hx hb hX hbl hbA hS hi3 dL_law_682 ?_
    refine lv_if_eq (tgt := 690) hx hb dL_law_683 (by decide) (fun c9 => absurd c9 h3) (fun _ => ?_)
    refine lv_iconst (v := 1) hx hb dL_law_686 (by decide) ?_
    refine lv_goto (tgt := 691) hx hb dL_law_687 (by decide) ?_
    refine lcI (As := [.int (xs (nI i + 1).toNatClampNeg), .int (xs (nI i + 2).toNatClampNeg), .int 1]) (rest := [.int r]) ⟨hx, hb, hml, hown, hts⟩ mM (cwV 3 hts (gLV wm_607 wm_608 wm_609 wm_5 wm_610) rfl rfl rfl qd_X11_dealt ⟨(Nat.le_of_ble_eq_true rfl), (Nat.le_of_ble_eq_true rfl)⟩) hZ hK hP hD hS hA em rfl rfl hl.1 rfl (Nat.le_of_ble_eq_true rfl) dL_law_691 ⟨Nat.le_refl _, Nat.le_refl _⟩ (fun H locs hP hD hS => ?_)
    refine lv_icmp_eq (tgt := 1282) hx hb dL_law_694 (by decide) (fun _ => ?_) (fun c9 => absurd rfl c9)
    exact nx WX' WM' H locs ls hR' hP hD hS hl
