set_option maxHeartbeats 4000000 in
set_option maxRecDepth 100000 in
theorem lk_strangest {p : Program} {l : Launch} {e : Env} {s : State} {m : MethodId} {below : List Frame} {meth : Method} {c : Code} {b L : Nat} {xs : Nat → Int32} (C0 : lw_At p s m meth c b L xs) {D : va_G} {k : Nat → ClassId} {ax am : Nat → Nat} {zb zv i : Nat} (hi : i + 6 ≤ L) (hL : L ≤ 3072) (hZ : zS zb zv (fun q : Nat => s.heap.size ≤ q) s s.heap) (hK : va_K D vwCl (xTys k) s) {WX WM : va_W} (hR : RW k ax am WX WM) {H : Heap} {locs : List Loc} (hP : va_P D vwCl (WX ++ WM) H) (hD : va_D (fun q : Nat => s.heap.size ≤ q) (WX ++ WM)) (hS : va_S (fun q : Nat => s.heap.size ≤ q) s.heap H locs) {ls : Array Slot} (hl : lv_has ls 4 [(0, .ref b), (1, .ref (ax 0)), (2, .ref (am 0)), (3, .int (nI i))]) (nx : lwNext p l e s m below meth c b D k ax am i) : W p l e room_1 s m #[Value.ref b] below meth c H locs 600000 7302250 (lw_Z below #[Value.ref b] s) (F0 m 699 ls []) := by
  obtain ⟨hx, hb, hr, hml, hown, hts, hX, hbl, hlocks, hgv⟩ := C0
  have hb : c.code = cL_law := hb
  have hown : s.vm.findClass RL = some m.cls := hown
  have hA : ∀ q : Nat, s.heap.size ≤ q → (fun q : Nat => s.heap.size ≤ q) q := fun _ h => h
  have hbA : ¬ (fun q : Nat => s.heap.size ≤ q) b := Nat.not_le.mpr hbl
  have hi1 : vp_in (nI i + 1) L := lw_in 1 hi hL (by decide)
  obtain ⟨r, WX', WM', mX, mM, hR'⟩ := s_strangest (l := l) (D := D) (N := 40000) (zb := zb) (zv := zv) (Nat.le_refl _) hR (xs (nI i + 1).toNatClampNeg)
  obtain ⟨fx, ex⟩ := RW_x hR
  obtain ⟨fm, em⟩ := RW_m hR
  refine lv_aload_n hx hb dL_law_699 rfl (lv_at hl 1 rfl) ?_
  refine lv_aload_n hx hb dL_law_700 rfl (lv_at hl 0 rfl) ?_
  refine lv_iload_n hx hb dL_law_701 rfl (lv_at hl 3 rfl) ?_
  refine lv_iconst (v := 1) hx hb dL_law_702 (by decide) ?_
  refine lv_iadd hx hb dL_law_703 ?_
  refine va_sld hx hb hX hbl hbA hS hi1 dL_law_704 ?_
  refine lcI (As := [.int (xs (nI i + 1).toNatClampNeg)]) (rest := []) ⟨hx, hb, hml, hown, hts⟩ mX (cwV 1 hts (gLV wm_623 wm_624 wm_625 wm_2 wm_626) rfl rfl rfl qd_X10_strangest ⟨(Nat.le_of_ble_eq_true rfl), (Nat.le_of_ble_eq_true rfl)⟩) hZ hK hP hD hS hA ex rfl rfl hl.1 rfl (Nat.le_of_ble_eq_true rfl) dL_law_705 ⟨Nat.le_refl _, Nat.le_refl _⟩ (fun H locs hP hD hS => ?_)
  refine lv_aload_n hx hb dL_law_708 rfl (lv_at hl 2 rfl) ?_
  refine lv_aload_n hx hb dL_law_709 rfl (lv_at hl 0 rfl) ?_
  refine lv_iload_n hx hb dL_law_710 rfl (lv_at hl 3 rfl) ?_
  refine lv_iconst (v := 1) hx hb dL_law_711 (by decide) ?_
  refine lv_iadd hx hb dL_law_712 ?_
  refine va_sld hx hb hX hbl hbA hS hi1 dL_law_713 ?_
  refine lcI (As := [.int (xs (nI i + 1).toNatClampNeg)]) (rest := [.int r]) ⟨hx, hb, hml, hown, hts⟩ mM (cwV 1 hts (gLV wm_627 wm_628 wm_629 wm_5 wm_630) rfl rfl rfl qd_X11_strangest ⟨(Nat.le_of_ble_eq_true rfl), (Nat.le_of_ble_eq_true rfl)⟩) hZ hK hP hD hS hA em rfl rfl hl.1 rfl (Nat.le_of_ble_eq_true rfl) dL_law_714 ⟨Nat.le_refl _, Nat.le_refl _⟩ (fun H locs hP hD hS => ?_)
  refine lv_icmp_eq (tgt := 1282) hx hb dL_law_717 (by decide) (fun _ => ?_) (fun c9 => absurd rfl c9)
  exact nx WX' WM' H locs ls hR' hP hD hS hl
set_option maxHeartbeats 4000000 in
set_option maxRecDepth 100000 in
theorem lk_hot {p : Program} {l : Launch} {e : Env} {s : State} {m : MethodId} {below : List Frame} {meth : Method} {c : Code} {b L : Nat} {xs : Nat → Int32} (C0 : lw_At p s m meth c b L xs) {D : va_G} {k : Nat → ClassId} {ax am : Nat → Nat} {zb zv i : Nat} (hi : i + 6 ≤ L) (hL : L ≤ 3072) (hZ : zS zb zv (fun q : Nat => s.heap.size ≤ q) s s.heap) (hK : va_K D vwCl (xTys k) s) {WX WM : va_W} (hR : RW k ax am WX WM) {H : Heap} {locs : List Loc} (hP : va_P D vwCl (WX ++ WM) H) (hD : va_D (fun q : Nat => s.heap.size ≤ q) (WX ++ WM)) (hS : va_S (fun q : Nat => s.heap.size ≤ q) s.heap H locs) {ls : Array Slot} (hl : lv_has ls 4 [(0, .ref b), (1, .ref (ax 0)), (2, .ref (am 0)), (3, .int (nI i))]) (nx : lwNext p l e s m below meth c b D k ax am i) : W p l e room_1 s m #[Value.ref b] below meth c H locs 600000 7302250 (lw_Z below #[Value.ref b] s) (F0 m 722 ls []) := by
  obtain ⟨hx, hb, hr, hml, hown, hts, hX, hbl, hlocks, hgv⟩ := C0
  have hb : c.code = cL_law := hb
  have hown : s.vm.findClass RL = some m.cls := hown
  have hA : ∀ q : Nat, s.heap.size ≤ q → (fun q : Nat => s.heap.size ≤ q) q := fun _ h => h
  have hbA : ¬ (fun q : Nat => s.heap.size ≤ q) b := Nat.not_le.mpr hbl
  have hi1 : vp_in (nI i + 1) L := lw_in 1 hi hL (by decide)
  have hi2 : vp_in (nI i + 2) L := lw_in 2 hi hL (by decide)
  have hi3 : vp_in (nI i + 3) L := lw_in 3 hi hL (by decide)
  obtain ⟨r, WX', WM', mX, mM, hR'⟩ := s_hot (l := l) (D := D) (N := 40000) (Nat.le_refl _) hR (xs (nI i + 1).toNatClampNeg) (xs (nI i + 2).toNatClampNeg) (xs (nI i + 3).toNatClampNeg)
  obtain ⟨fx, ex⟩ := RW_x hR
  obtain ⟨fm, em⟩ := RW_m hR
  refine lv_aload_n hx hb dL_law_722 rfl (lv_at hl 1 rfl) ?_
  refine lv_aload_n hx hb dL_law_723 rfl (lv_at hl 0 rfl) ?_
  refine lv_iload_n hx hb dL_law_724 rfl (lv_at hl 3 rfl) ?_
  refine lv_iconst (v := 1) hx hb dL_law_725 (by decide) ?_
  refine lv_iadd hx hb dL_law_726 ?_
  refine va_sld hx hb hX hbl hbA hS hi1 dL_law_727 ?_
  refine lv_aload_n hx hb dL_law_728 rfl (lv_at hl 0 rfl) ?_
  refine lv_iload_n hx hb dL_law_729 rfl (lv_at hl 3 rfl) ?_
  refine lv_iconst (v := 2) hx hb dL_law_730 (by decide) ?_
  refine lv_iadd hx hb dL_law_731 ?_
  refine va_sld hx hb hX hbl hbA hS hi2 dL_law_732 ?_
  refine lv_aload_n hx hb dL_law_733 rfl (lv_at hl 0 rfl) ?_
  refine lv_iload_n hx hb dL_law_734 rfl (lv_at hl 3 rfl) ?_
  refine lv_iconst (v := 3) hx hb dL_law_735 (by decide) ?_
  refine lv_iadd hx hb dL_law_736 ?_
  refine va_sld hx hb hX hbl hbA hS hi3 dL_law_737 ?_
  refine lcL (As := [.int (xs (nI i + 1).toNatClampNeg), .int (xs (nI i + 2).toNatClampNeg), .int (xs (nI i + 3).toNatClampNeg)]) (rest := []) ⟨hx, hb, hml, hown, hts⟩ mX (cwV 3 hts (gLV wm_631 wm_632 wm_633 wm_2 wm_634) rfl rfl rfl qd_X10_hot ⟨(Nat.le_of_ble_eq_true rfl), (Nat.le_of_ble_eq_true rfl)⟩) hK hP hD hS hA ex rfl rfl hl.1 rfl (Nat.le_of_ble_eq_true rfl) dL_law_738 ⟨Nat.le_refl _, Nat.le_refl _⟩ (fun H locs hP hD hS => ?_)
  refine lv_aload_n hx hb dL_law_741 rfl (lv_at hl 2 rfl) ?_
  refine lv_aload_n hx hb dL_law_742 rfl (lv_at hl 0 rfl) ?_
  refine lv_iload_n hx hb dL_law_743 rfl (lv_at hl 3 rfl) ?_
  refine lv_iconst (v := 1) hx hb dL_law_744 (by decide) ?_
  refine lv_iadd hx hb dL_law_745 ?_
  refine va_sld hx hb hX hbl hbA hS hi1 dL_law_746 ?_
  refine lv_aload_n hx hb dL_law_747 rfl (lv_at hl 0 rfl) ?_
  refine lv_iload_n hx hb dL_law_748 rfl (lv_at hl 3 rfl) ?_
  refine lv_iconst (v := 2) hx hb dL_law_749 (by decide) ?_
  refine lv_iadd hx hb dL_law_750 ?_
  refine va_sld hx hb hX hbl hbA hS hi2 dL_law_751 ?_
  refine lv_aload_n hx hb dL_law_752 rfl (lv_at hl 0 rfl) ?_
  refine lv_iload_n hx hb dL_law_753 rfl (lv_at hl 3 rfl) ?_
  refine lv_iconst (v := 3) hx hb dL_law_754 (by decide) ?_
  refine lv_iadd hx hb dL_law_755 ?_
  refine va_sld hx hb hX hbl hbA hS hi3 dL_law_756 ?_
  refine lcL (As := [.int (xs (nI i + 1).toNatClampNeg), .int (xs (nI i + 2).toNatClampNeg), .int (xs (nI i + 3).toNatClampNeg)]) (rest := [.long r]) ⟨hx, hb, hml, hown, hts⟩ mM (cwV 3 hts (gLV wm_642 wm_643 wm_644 wm_5 wm_645) rfl rfl rfl qd_X11_hot ⟨(Nat.le_of_ble_eq_true rfl), (Nat.le_of_ble_eq_true rfl)⟩) hK hP hD hS hA em rfl rfl hl.1 rfl (Nat.le_of_ble_eq_true rfl) dL_law_757 ⟨Nat.le_refl _, Nat.le_refl _⟩ (fun H locs hP hD hS => ?_)
  refine lw_lc hx hb dL_law_760 ?_
  refine lv_if_eq (tgt := 1282) hx hb dL_law_761 (by decide) (fun _ => ?_) (fun c9 => absurd rfl c9)
  exact nx WX' WM' H locs ls hR' hP hD hS hl
set_option maxHeartbeats 4000000 in
set_option maxRecDepth 100000 in
theorem lk_already {p : Program} {l : Launch} {e : Env} {s : State} {m : MethodId} {below : List Frame} {meth : Method} {c : Code} {b L : Nat} {xs : Nat → Int32} (C0 : lw_At p s m meth c b L xs) {D : va_G} {k : Nat → ClassId} {ax am : Nat → Nat} {zb zv i : Nat} (hi : i + 6 ≤ L) (hL : L ≤ 3072) (hZ : zS zb zv (fun q : Nat => s.heap.size ≤ q) s s.heap) (hK : va_K D vwCl (xTys k) s) {WX WM : va_W} (hR : RW k ax am WX WM) {H : Heap} {locs : List Loc} (hP : va_P D vwCl (WX ++ WM) H) (hD : va_D (fun q : Nat => s.heap.size ≤ q) (WX ++ WM)) (hS : va_S (fun q : Nat => s.heap.size ≤ q) s.heap H locs) {ls : Array Slot} (hl : lv_has ls 4 [(0, .ref b), (1, .ref (ax 0)), (2, .ref (am 0)), (3, .int (nI i))]) (nx : lwNext p l e s m below meth c b D k ax am i) : W p l e room_1 s m #[Value.ref b] below meth c H locs 600000 7302250 (lw_Z below #[Value.ref b] s) (F0 m 766 ls []) := by
  obtain ⟨hx, hb, hr, hml, hown, hts, hX, hbl, hlocks, hgv⟩ := C0
  have hb : c.code = cL_law := hb
  have hown : s.vm.findClass RL = some m.cls := hown
  have hA : ∀ q : Nat, s.heap.size ≤ q → (fun q : Nat => s.heap.size ≤ q) q := fun _ h => h
  have hbA : ¬ (fun q : Nat => s.heap.size ≤ q) b := Nat.not_le.mpr hbl
  have hi1 : vp_in (nI i + 1) L := lw_in 1 hi hL (by decide)
  have hi2 : vp_in (nI i + 2) L := lw_in 2 hi hL (by decide)
  have hi3 : vp_in (nI i + 3) L := lw_in 3 hi hL (by decide)
  obtain ⟨r, WX', WM', mX, mM, hR'⟩ := s_already (l := l) (D := D) (N := 40000) (Nat.le_refl _) hR (xs (nI i + 1).toNatClampNeg) (xs (nI i + 2).toNatClampNeg) (xs (nI i + 3).toNatClampNeg)
  obtain ⟨fx, ex⟩ := RW_x hR
  obtain ⟨fm, em⟩ := RW_m hR
  refine lv_aload_n hx hb dL_law_766 rfl (lv_at hl 1 rfl) ?_
  refine lv_aload_n hx hb dL_law_767 rfl (lv_at hl 0 rfl) ?_
  refine lv_iload_n hx hb dL_law_768 rfl (lv_at hl 3 rfl) ?_
  refine lv_iconst (v := 1) hx hb dL_law_769 (by decide) ?_
  refine lv_iadd hx hb dL_law_770 ?_
  refine va_sld hx hb hX hbl hbA hS hi1 dL_law_771 ?_
  refine lv_aload_n hx hb dL_law_772 rfl (lv_at hl 0 rfl) ?_
  refine lv_iload_n hx hb dL_law_773 rfl (lv_at hl 3 rfl) ?_
  refine lv_iconst (v := 2) hx hb dL_law_774 (by decide) ?_
  refine lv_iadd hx hb dL_law_775 ?_
  refine va_sld hx hb hX hbl hbA hS hi2 dL_law_776 ?_
  refine lv_aload_n hx hb dL_law_777 rfl (lv_at hl 0 rfl) ?_
  refine lv_iload_n hx hb dL_law_778 rfl (lv_at hl 3 rfl) ?_
  refine lv_iconst (v := 3) hx hb dL_law_779 (by decide) ?_
  refine lv_iadd hx hb dL_law_780 ?_
  refine va_sld hx hb hX hbl hbA hS hi3 dL_law_781 ?_
  refine lcL (As := [.int (xs (nI i + 1).toNatClampNeg), .int (xs (nI i + 2).toNatClampNeg), .int (xs (nI i + 3).toNatClampNeg)]) (rest := []) ⟨hx, hb, hml, hown, hts⟩ mX (cwV 3 hts (gLV wm_652 wm_653 wm_654 wm_2 wm_655) rfl rfl rfl qd_X10_already ⟨(Nat.le_of_ble_eq_true rfl), (Nat.le_of_ble_eq_true rfl)⟩) hK hP hD hS hA ex rfl rfl hl.1 rfl (Nat.le_of_ble_eq_true rfl) dL_law_782 ⟨Nat.le_refl _, Nat.le_refl _⟩ (fun H locs hP hD hS => ?_)
  refine lv_aload_n hx hb dL_law_785 rfl (lv_at hl 2 rfl) ?_
  refine lv_aload_n hx hb dL_law_786 rfl (lv_at hl 0 rfl) ?_
  refine lv_iload_n hx hb dL_law_787 rfl (lv_at hl 3 rfl) ?_
  refine lv_iconst (v := 1) hx hb dL_law_788 (by decide) ?_
  refine lv_iadd hx hb dL_law_789 ?_
  refine va_sld hx hb hX hbl hbA hS hi1 dL_law_790 ?_
  refine lv_aload_n hx hb dL_law_791 rfl (lv_at hl 0 rfl) ?_
  refine lv_iload_n hx hb dL_law_792 rfl (lv_at hl 3 rfl) ?_
  refine lv_iconst (v := 2) hx hb dL_law_793 (by decide) ?_
  refine lv_iadd hx hb dL_law_794 ?_
  refine va_sld hx hb hX hbl hbA hS hi2 dL_law_795 ?_
  refine lv_aload_n hx hb dL_law_796 rfl (lv_at hl 0 rfl) ?_
  refine lv_iload_n hx hb dL_law_797 rfl (lv_at hl 3 rfl) ?_
  refine lv_iconst (v := 3) hx hb dL_law_798 (by decide) ?_
  refine lv_iadd hx hb dL_law_799 ?_
  refine va_sld hx hb hX hbl hbA hS hi3 dL_law_800 ?_
  refine lcL (As := [.int (xs (nI i + 1).toNatClampNeg), .int (xs (nI i + 2).toNatClampNeg), .int (xs (nI i + 3).toNatClampNeg)]) (rest := [.long r]) ⟨hx, hb, hml, hown, hts⟩ mM (cwV 3 hts (gLV wm_661 wm_662 wm_663 wm_5 wm_664) rfl rfl rfl qd_X11_already ⟨(Nat.le_of_ble_eq_true rfl), (Nat.le_of_ble_eq_true rfl)⟩) hK hP hD hS hA em rfl rfl hl.1 rfl (Nat.le_of_ble_eq_true rfl) dL_law_801 ⟨Nat.le_refl _, Nat.le_refl _⟩ (fun H locs hP hD hS => ?_)
  refine lw_lc hx hb dL_law_804 ?_
  refine lv_if_eq (tgt := 1282) hx hb dL_law_805 (by decide) (fun _ => ?_) (fun c9 => absurd rfl c9)
  exact nx WX' WM' H locs ls hR' hP hD hS hl
set_option maxHeartbeats 4000000 in
set_option maxRecDepth 100000 in
theorem lk_waits {p : Program} {l : Launch} {e : Env} {s : State} {m : MethodId} {below : List Frame} {meth : Method} {c : Code} {b L : Nat} {xs : Nat → Int32} (C0 : lw_At p s m meth c b L xs) {D : va_G} {k : Nat → ClassId} {ax am : Nat → Nat} {zb zv i : Nat} (hi : i + 6 ≤ L) (hL : L ≤ 3072) (hZ : zS zb zv (fun q : Nat => s.heap.size ≤ q) s s.heap) (hK : va_K D vwCl (xTys k) s) {WX WM : va_W} (hR : RW k ax am WX WM) {H : Heap} {locs : List Loc} (hP : va_P D vwCl (WX ++ WM) H) (hD : va_D (fun q : Nat => s.heap.size ≤ q) (WX ++ WM)) (hS : va_S (fun q : Nat => s.heap.size ≤ q) s.heap H locs) {ls : Array Slot} (hl : lv_has ls 4 [(0, .ref b), (1, .ref (ax 0)), (2, .ref (am 0)), (3, .int (nI i))]) (nx : lwNext p l e s m below meth c b D k ax am i) : W p l e room_1 s m #[Value.ref b] below meth c H locs 600000 7302250 (lw_Z below #[Value.ref b] s) (F0 m 810 ls []) := by
  obtain ⟨hx, hb, hr, hml, hown, hts, hX, hbl, hlocks, hgv⟩ := C0
  have hb : c.code = cL_law := hb
  have hown : s.vm.findClass RL = some m.cls := hown
  have hA : ∀ q : Nat, s.heap.size ≤ q → (fun q : Nat => s.heap.size ≤ q) q := fun _ h => h
  have hbA : ¬ (fun q : Nat => s.heap.size ≤ q) b := Nat.not_le.mpr hbl
  have hi1 : vp_in (nI i + 1) L := lw_in 1 hi hL (by decide)
  obtain ⟨r, WX', WM', mX, mM, hR'⟩ := s_waits (l := l) (D := D) (N := 40000) (Nat.le_refl _) hR (xs (nI i + 1).toNatClampNeg)
  obtain ⟨fx, ex⟩ := RW_x hR
  obtain ⟨fm, em⟩ := RW_m hR
  refine lv_aload_n hx hb dL_law_810 rfl (lv_at hl 1 rfl) ?_
  refine lv_aload_n hx hb dL_law_811 rfl (lv_at hl 0 rfl) ?_
  refine lv_iload_n hx hb dL_law_812 rfl (lv_at hl 3 rfl) ?_
  refine lv_iconst (v := 1) hx hb dL_law_813 (by decide) ?_
  refine lv_iadd hx hb dL_law_814 ?_
  refine va_sld hx hb hX hbl hbA hS hi1 dL_law_815 ?_
  refine lcL (As := [.int (xs (nI i + 1).toNatClampNeg)]) (rest := []) ⟨hx, hb, hml, hown, hts⟩ mX (cwV 1 hts (gLV wm_666 wm_667 wm_668 wm_2 wm_669) rfl rfl rfl qd_X10_waits ⟨(Nat.le_of_ble_eq_true rfl), (Nat.le_of_ble_eq_true rfl)⟩) hK hP hD hS hA ex rfl rfl hl.1 rfl (Nat.le_of_ble_eq_true rfl) dL_law_816 ⟨Nat.le_refl _, Nat.le_refl _⟩ (fun H locs hP hD hS => ?_)
  refine lv_aload_n hx hb dL_law_819 rfl (lv_at hl 2 rfl) ?_
  refine lv_aload_n hx hb dL_law_820 rfl (lv_at hl 0 rfl) ?_
  refine lv_iload_n hx hb dL_law_821 rfl (lv_at hl 3 rfl) ?_
  refine lv_iconst (v := 1) hx hb dL_law_822 (by decide) ?_
  refine lv_iadd hx hb dL_law_823 ?_
  refine va_sld hx hb hX hbl hbA hS hi1 dL_law_824 ?_
  refine lcL (As := [.int (xs (nI i + 1).toNatClampNeg)]) (rest := [.long r]) ⟨hx, hb, hml, hown, hts⟩ mM (cwV 1 hts (gLV wm_681 wm_682 wm_683 wm_5 wm_684) rfl rfl rfl qd_X11_waits ⟨(Nat.le_of_ble_eq_true rfl), (Nat.le_of_ble_eq_true rfl)⟩) hK hP hD hS hA em rfl rfl hl.1 rfl (Nat.le_of_ble_eq_true rfl) dL_law_825 ⟨Nat.le_refl _, Nat.le_refl _⟩ (fun H locs hP hD hS => ?_)
  refine lw_lc hx hb dL_law_828 ?_
  refine lv_if_eq (tgt := 1282) hx hb dL_law_829 (by decide) (fun _ => ?_) (fun c9 => absurd rfl c9)
  exact nx WX' WM' H locs ls hR' hP hD hS hl
set_option maxHeartbeats 4000000 in
set_option maxRecDepth 100000 in
theorem lk_first {p : Program} {l : Launch} {e : Env} {s : State} {m : MethodId} {below : List Frame} {meth : Method} {c : Code} {b L : Nat} {xs : Nat → Int32} (C0 : lw_At p s m meth c b L xs) {D : va_G} {k : Nat → ClassId} {ax am : Nat → Nat} {zb zv i : Nat} (hi : i + 6 ≤ L) (hL : L ≤ 3072) (hZ : zS zb zv (fun q : Nat => s.heap.size ≤ q) s s.heap) (hK : va_K D vwCl (xTys k) s) {WX WM : va_W} (hR : RW k ax am WX WM) {H : Heap} {locs : List Loc} (hP : va_P D vwCl (WX ++ WM) H) (hD : va_D (fun q : Nat => s.heap.size ≤ q) (WX ++ WM)) (hS : va_S (fun q : Nat => s.heap.size ≤ q) s.heap H locs) {ls : Array Slot} (hl : lv_has ls 4 [(0, .ref b), (1, .ref (ax 0)), (2, .ref (am 0)), (3, .int (nI i))]) (nx : lwNext p l e s m below meth c b D k ax am i) : W p l e room_1 s m #[Value.ref b] below meth c H locs 600000 7302250 (lw_Z below #[Value.ref b] s) (F0 m 834 ls []) := by
  obtain ⟨hx, hb, hr, hml, hown, hts, hX, hbl, hlocks, hgv⟩ := C0
  have hb : c.code = cL_law := hb
  have hown : s.vm.findClass RL = some m.cls := hown
  have hA : ∀ q : Nat, s.heap.size ≤ q → (fun q : Nat => s.heap.size ≤ q) q := fun _ h => h
  have hbA : ¬ (fun q : Nat => s.heap.size ≤ q) b := Nat.not_le.mpr hbl
  have hi1 : vp_in (nI i + 1) L := lw_in 1 hi hL (by decide)
  have hi2 : vp_in (nI i + 2) L := lw_in 2 hi hL (by decide)
  have hi3 : vp_in (nI i + 3) L := lw_in 3 hi hL (by decide)
  obtain ⟨r, WX', WM', mX, mM, hR'⟩ := s_first (l := l) (D := D) (N := 40000) (Nat.le_refl _) hR (xs (nI i + 1).toNatClampNeg) (xs (nI i + 2).toNatClampNeg) (xs (nI i + 3).toNatClampNeg)
  obtain ⟨fx, ex⟩ := RW_x hR
  obtain ⟨fm, em⟩ := RW_m hR
  refine lv_aload_n hx hb dL_law_834 rfl (lv_at hl 1 rfl) ?_
  refine lv_aload_n hx hb dL_law_835 rfl (lv_at hl 0 rfl) ?_
  refine lv_iload_n hx hb dL_law_836 rfl (lv_at hl 3 rfl) ?_
  refine lv_iconst (v := 1) hx hb dL_law_837 (by decide) ?_
  refine lv_iadd hx hb dL_law_838 ?_
  refine va_sld hx hb hX hbl hbA hS hi1 dL_law_839 ?_
  refine lv_aload_n hx hb dL_law_840 rfl (lv_at hl 0 rfl) ?_
  refine lv_iload_n hx hb dL_law_841 rfl (lv_at hl 3 rfl) ?_
  refine lv_iconst (v := 2) hx hb dL_law_842 (by decide) ?_
  refine lv_iadd hx hb dL_law_843 ?_
  refine va_sld hx hb hX hbl hbA hS hi2 dL_law_844 ?_
  refine lv_aload_n hx hb dL_law_845 rfl (lv_at hl 0 rfl) ?_
  refine lv_iload_n hx hb dL_law_846 rfl (lv_at hl 3 rfl) ?_
  refine lv_iconst (v := 3) hx hb dL_law_847 (by decide) ?_
  refine lv_iadd hx hb dL_law_848 ?_
  refine va_sld hx hb hX hbl hbA hS hi3 dL_law_849 ?_
  refine lcL (As := [.int (xs (nI i + 1).toNatClampNeg), .int (xs (nI i + 2).toNatClampNeg), .int (xs (nI i + 3).toNatClampNeg)]) (rest := []) ⟨hx, hb, hml, hown, hts⟩ mX (cwV 3 hts (gLV wm_700 wm_701 wm_702 wm_2 wm_703) rfl rfl rfl qd_X10_first ⟨(Nat.le_of_ble_eq_true rfl), (Nat.le_of_ble_eq_true rfl)⟩) hK hP hD hS hA ex rfl rfl hl.1 rfl (Nat.le_of_ble_eq_true rfl) dL_law_850 ⟨Nat.le_refl _, Nat.le_refl _⟩ (fun H locs hP hD hS => ?_)
  refine lv_aload_n hx hb dL_law_853 rfl (lv_at hl 2 rfl) ?_
  refine lv_aload_n hx hb dL_law_854 rfl (lv_at hl 0 rfl) ?_
  refine lv_iload_n hx hb dL_law_855 rfl (lv_at hl 3 rfl) ?_
  refine lv_iconst (v := 1) hx hb dL_law_856 (by decide) ?_
  refine lv_iadd hx hb dL_law_857 ?_
  refine va_sld hx hb hX hbl hbA hS hi1 dL_law_858 ?_
  refine lv_aload_n hx hb dL_law_859 rfl (lv_at hl 0 rfl) ?_
  refine lv_iload_n hx hb dL_law_860 rfl (lv_at hl 3 rfl) ?_
  refine lv_iconst (v := 2) hx hb dL_law_861 (by decide) ?_
  refine lv_iadd hx hb dL_law_862 ?_
  refine va_sld hx hb hX hbl hbA hS hi2 dL_law_863 ?_
  refine lv_aload_n hx hb dL_law_864 rfl (lv_at hl 0 rfl) ?_
  refine lv_iload_n hx hb dL_law_865 rfl (lv_at hl 3 rfl) ?_
  refine lv_iconst (v := 3) hx hb dL_law_866 (by decide) ?_
  refine lv_iadd hx hb dL_law_867 ?_
  refine va_sld hx hb hX hbl hbA hS hi3 dL_law_868 ?_
  refine lcL (As := [.int (xs (nI i + 1).toNatClampNeg), .int (xs (nI i + 2).toNatClampNeg), .int (xs (nI i + 3).toNatClampNeg)]) (rest := [.long r]) ⟨hx, hb, hml, hown, hts⟩ mM (cwV 3 hts (gLV wm_711 wm_712 wm_713 wm_5 wm_714) rfl rfl rfl qd_X11_first ⟨(Nat.le_of_ble_eq_true rfl), (Nat.le_of_ble_eq_true rfl)⟩) hK hP hD hS hA em rfl rfl hl.1 rfl (Nat.le_of_ble_eq_true rfl) dL_law_869 ⟨Nat.le_refl _, Nat.le_refl _⟩ (fun H locs hP hD hS => ?_)
  refine lw_lc hx hb dL_law_872 ?_
  refine lv_if_eq (tgt := 1282) hx hb dL_law_873 (by decide) (fun _ => ?_) (fun c9 => absurd rfl c9)
  exact nx WX' WM' H locs ls hR' hP hD hS hl
set_option maxHeartbeats 4000000 in
set_option maxRecDepth 100000 in
theorem lk_agree {p : Program} {l : Launch} {e : Env} {s : State} {m : MethodId} {below : List Frame} {meth : Method} {c : Code} {b L : Nat} {xs : Nat → Int32} (C0 : lw_At p s m meth c b L xs) {D : va_G} {k : Nat → ClassId} {ax am : Nat → Nat} {zb zv i : Nat} (hi : i + 6 ≤ L) (hL : L ≤ 3072) (hZ : zS zb zv (fun q : Nat => s.heap.size ≤ q) s s.heap) (hK : va_K D vwCl (xTys k) s) {WX WM : va_W} (hR : RW k ax am WX WM) {H : Heap} {locs : List Loc} (hP : va_P D vwCl (WX ++ WM) H) (hD : va_D (fun q : Nat => s.heap.size ≤ q) (WX ++ WM)) (hS : va_S (fun q : Nat => s.heap.size ≤ q) s.heap H locs) {ls : Array Slot} (hl : lv_has ls 4 [(0, .ref b), (1, .ref (ax 0)), (2, .ref (am 0)), (3, .int (nI i))]) (nx : lwNext p l e s m below meth c b D k ax am i) : W p l e room_1 s m #[Value.ref b] below meth c H locs 600000 7302250 (lw_Z below #[Value.ref b] s) (F0 m 878 ls []) := by
  obtain ⟨hx, hb, hr, hml, hown, hts, hX, hbl, hlocks, hgv⟩ := C0
  have hb : c.code = cL_law := hb
  have hown : s.vm.findClass RL = some m.cls := hown
  have hA : ∀ q : Nat, s.heap.size ≤ q → (fun q : Nat => s.heap.size ≤ q) q := fun _ h => h
  have hbA : ¬ (fun q : Nat => s.heap.size ≤ q) b := Nat.not_le.mpr hbl
  have hi1 : vp_in (nI i + 1) L := lw_in 1 hi hL (by decide)
  have hi2 : vp_in (nI i + 2) L := lw_in 2 hi hL (by decide)
  have hi3 : vp_in (nI i + 3) L := lw_in 3 hi hL (by decide)
  obtain ⟨r, WX', WM', mX, mM, hR'⟩ := s_agree (l := l) (D := D) (N := 40000) (zb := zb) (zv := zv) (Nat.le_refl _) hR (xs (nI i + 1).toNatClampNeg) (xs (nI i + 2).toNatClampNeg) (xs (nI i + 3).toNatClampNeg)
  obtain ⟨fx, ex⟩ := RW_x hR
  obtain ⟨fm, em⟩ := RW_m hR
  refine lv_aload_n hx hb dL_law_878 rfl (lv_at hl 1 rfl) ?_
  refine lv_aload_n hx hb dL_law_879 rfl (lv_at hl 0 rfl) ?_
  refine lv_iload_n hx hb dL_law_880 rfl (lv_at hl 3 rfl) ?_
  refine lv_iconst (v := 1) hx hb dL_law_881 (by decide) ?_
  refine lv_iadd hx hb dL_law_882 ?_
  refine va_sld hx hb hX hbl hbA hS hi1 dL_law_883 ?_
  refine lv_aload_n hx hb dL_law_884 rfl (lv_at hl 0 rfl) ?_
  refine lv_iload_n hx hb dL_law_885 rfl (lv_at hl 3 rfl) ?_
  refine lv_iconst (v := 2) hx hb dL_law_886 (by decide) ?_
  refine lv_iadd hx hb dL_law_887 ?_
  refine va_sld hx hb hX hbl hbA hS hi2 dL_law_888 ?_
  refine lv_aload_n hx hb dL_law_889 rfl (lv_at hl 0 rfl) ?_
  refine lv_iload_n hx hb dL_law_890 rfl (lv_at hl 3 rfl) ?_
  refine lv_iconst (v := 3) hx hb dL_law_891 (by decide) ?_
  refine lv_iadd hx hb dL_law_892 ?_
  refine va_sld hx hb hX hbl hbA hS hi3 dL_law_893 ?_
  refine lcI (As := [.int (xs (nI i + 1).toNatClampNeg), .int (xs (nI i + 2).toNatClampNeg), .int (xs (nI i + 3).toNatClampNeg)]) (rest := []) ⟨hx, hb, hml, hown, hts⟩ mX (cwV 3 hts (gLV wm_718 wm_719 wm_720 wm_2 wm_721) rfl rfl rfl qd_X10_agree ⟨(Nat.le_of_ble_eq_true rfl), (Nat.le_of_ble_eq_true rfl)⟩) hZ hK hP hD hS hA ex rfl rfl hl.1 rfl (Nat.le_of_ble_eq_true rfl) dL_law_894 ⟨Nat.le_refl _, Nat.le_refl _⟩ (fun H locs hP hD hS => ?_)
  refine lv_aload_n hx hb dL_law_897 rfl (lv_at hl 2 rfl) ?_
  refine lv_aload_n hx hb dL_law_898 rfl (lv_at hl 0 rfl) ?_
  refine lv_iload_n hx hb dL_law_899 rfl (lv_at hl 3 rfl) ?_
  refine lv_iconst (v := 1) hx hb dL_law_900 (by decide) ?_
  refine lv_iadd hx hb dL_law_901 ?_
  refine va_sld hx hb hX hbl hbA hS hi1 dL_law_902 ?_
  refine lv_aload_n hx hb dL_law_903 rfl (lv_at hl 0 rfl) ?_
  refine lv_iload_n hx hb dL_law_904 rfl (lv_at hl 3 rfl) ?_
  refine lv_iconst (v := 2) hx hb dL_law_905 (by decide) ?_
  refine lv_iadd hx hb dL_law_906 ?_
  refine va_sld hx hb hX hbl hbA hS hi2 dL_law_907 ?_
  refine lv_aload_n hx hb dL_law_908 rfl (lv_at hl 0 rfl) ?_
  refine lv_iload_n hx hb dL_law_909 rfl (lv_at hl 3 rfl) ?_
  refine lv_iconst (v := 3) hx hb dL_law_910 (by decide) ?_
  refine lv_iadd hx hb dL_law_911 ?_
  refine va_sld hx hb hX hbl hbA hS hi3 dL_law_912 ?_
  refine lcI (As := [.int (xs (nI i + 1).toNatClampNeg), .int (xs (nI i + 2).toNatClampNeg), .int (xs (nI i + 3).toNatClampNeg)]) (rest := [.int r]) ⟨hx, hb, hml, hown, hts⟩ mM (cwV 3 hts (gLV wm_722 wm_723 wm_724 wm_5 wm_725) rfl rfl rfl qd_X11_agree ⟨(Nat.le_of_ble_eq_true rfl), (Nat.le_of_ble_eq_true rfl)⟩) hZ hK hP hD hS hA em rfl rfl hl.1 rfl (Nat.le_of_ble_eq_true rfl) dL_law_913 ⟨Nat.le_refl _, Nat.le_refl _⟩ (fun H locs hP hD hS => ?_)
  refine lv_icmp_eq (tgt := 1282) hx hb dL_law_916 (by decide) (fun _ => ?_) (fun c9 => absurd rfl c9)
  exact nx WX' WM' H locs ls hR' hP hD hS hl
set_option maxHeartbeats 4000000 in
set_option maxRecDepth 100000 in
theorem lk_twice {p : Program} {l : Launch} {e : Env} {s : State} {m : MethodId} {below : List Frame} {meth : Method} {c : Code} {b L : Nat} {xs : Nat → Int32} (C0 : lw_At p s m meth c b L xs) {D : va_G} {k : Nat → ClassId} {ax am : Nat → Nat} {zb zv i : Nat} (hi : i + 6 ≤ L) (hL : L ≤ 3072) (hZ : zS zb zv (fun q : Nat => s.heap.size ≤ q) s s.heap) (hK : va_K D vwCl (xTys k) s) {WX WM : va_W} (hR : RW k ax am WX WM) {H : Heap} {locs : List Loc} (hP : va_P D vwCl (WX ++ WM) H) (hD : va_D (fun q : Nat => s.heap.size ≤ q) (WX ++ WM)) (hS : va_S (fun q : Nat => s.heap.size ≤ q) s.heap H locs) {ls : Array Slot} (hl : lv_has ls 4 [(0, .ref b), (1, .ref (ax 0)), (2, .ref (am 0)), (3, .int (nI i))]) (nx : lwNext p l e s m below meth c b D k ax am i) : W p l e room_1 s m #[Value.ref b] below meth c H locs 600000 7302250 (lw_Z below #[Value.ref b] s) (F0 m 921 ls []) := by
  obtain ⟨hx, hb, hr, hml, hown, hts, hX, hbl, hlocks, hgv⟩ := C0
  have hb : c.code = cL_law := hb
  have hown : s.vm.findClass RL = some m.cls := hown
  have hA : ∀ q : Nat, s.heap.size ≤ q → (fun q : Nat => s.heap.size ≤ q) q := fun _ h => h
  have hbA : ¬ (fun q : Nat => s.heap.size ≤ q) b := Nat.not_le.mpr hbl
  have hi1 : vp_in (nI i + 1) L := lw_in 1 hi hL (by decide)
  obtain ⟨r, WX', WM', mX, mM, hR'⟩ := s_twice (l := l) (D := D) (N := 40000) (zb := zb) (zv := zv) (Nat.le_refl _) hR (xs (nI i + 1).toNatClampNeg)
  obtain ⟨fx, ex⟩ := RW_x hR
  obtain ⟨fm, em⟩ := RW_m hR
  refine lv_aload_n hx hb dL_law_921 rfl (lv_at hl 1 rfl) ?_
  refine lv_aload_n hx hb dL_law_922 rfl (lv_at hl 0 rfl) ?_
  refine lv_iload_n hx hb dL_law_923 rfl (lv_at hl 3 rfl) ?_
  refine lv_iconst (v := 1) hx hb dL_law_924 (by decide) ?_
  refine lv_iadd hx hb dL_law_925 ?_
  refine va_sld hx hb hX hbl hbA hS hi1 dL_law_926 ?_
  refine lcI (As := [.int (xs (nI i + 1).toNatClampNeg)]) (rest := []) ⟨hx, hb, hml, hown, hts⟩ mX (cwV 1 hts (gLV wm_726 wm_727 wm_728 wm_2 wm_729) rfl rfl rfl qd_X10_twice ⟨(Nat.le_of_ble_eq_true rfl), (Nat.le_of_ble_eq_true rfl)⟩) hZ hK hP hD hS hA ex rfl rfl hl.1 rfl (Nat.le_of_ble_eq_true rfl) dL_law_927 ⟨Nat.le_refl _, Nat.le_refl _⟩ (fun H locs hP hD hS => ?_)
  refine lv_aload_n hx hb dL_law_930 rfl (lv_at hl 2 rfl) ?_
  refine lv_aload_n hx hb dL_law_931 rfl (lv_at hl 0 rfl) ?_
  refine lv_iload_n hx hb dL_law_932 rfl (lv_at hl 3 rfl) ?_
  refine lv_iconst (v := 1) hx hb dL_law_933 (by decide) ?_
  refine lv_iadd hx hb dL_law_934 ?_
  refine va_sld hx hb hX hbl hbA hS hi1 dL_law_935 ?_
  refine lcI (As := [.int (xs (nI i + 1).toNatClampNeg)]) (rest := [.int r]) ⟨hx, hb, hml, hown, hts⟩ mM (cwV 1 hts (gLV wm_733 wm_734 wm_735 wm_5 wm_736) rfl rfl rfl qd_X11_twice ⟨(Nat.le_of_ble_eq_true rfl), (Nat.le_of_ble_eq_true rfl)⟩) hZ hK hP hD hS hA em rfl rfl hl.1 rfl (Nat.le_of_ble_eq_true rfl) dL_law_936 ⟨Nat.le_refl _, Nat.le_refl _⟩ (fun H locs hP hD hS => ?_)
  refine lv_icmp_eq (tgt := 1282) hx hb dL_law_939 (by decide) (fun _ => ?_) (fun c9 => absurd rfl c9)
  exact nx WX' WM' H locs ls hR' hP hD hS hl
set_option maxHeartbeats 4000000 in
set_option maxRecDepth 100000 in
theorem lk_next {p : Program} {l : Launch} {e : Env} {s : State} {m : MethodId} {below : List Frame} {meth : Method} {c : Code} {b L : Nat} {xs : Nat → Int32} (C0 : lw_At p s m meth c b L xs) {D : va_G} {k : Nat → ClassId} {ax am : Nat → Nat} {zb zv i : Nat} (hi : i + 6 ≤ L) (hL : L ≤ 3072) (hZ : zS zb zv (fun q : Nat => s.heap.size ≤ q) s s.heap) (hK : va_K D vwCl (xTys k) s) {WX WM : va_W} (hR : RW k ax am WX WM) {H : Heap} {locs : List Loc} (hP : va_P D vwCl (WX ++ WM) H) (hD : va_D (fun q : Nat => s.heap.size ≤ q) (WX ++ WM)) (hS : va_S (fun q : Nat => s.heap.size ≤ q) s.heap H locs) {ls : Array Slot} (hl : lv_has ls 4 [(0, .ref b), (1, .ref (ax 0)), (2, .ref (am 0)), (3, .int (nI i))]) (nx : lwNext p l e s m below meth c b D k ax am i) : W p l e room_1 s m #[Value.ref b] below meth c H locs 600000 7302250 (lw_Z below #[Value.ref b] s) (F0 m 944 ls []) := by
  obtain ⟨hx, hb, hr, hml, hown, hts, hX, hbl, hlocks, hgv⟩ := C0
  have hb : c.code = cL_law := hb
  have hown : s.vm.findClass RL = some m.cls := hown
  have hA : ∀ q : Nat, s.heap.size ≤ q → (fun q : Nat => s.heap.size ≤ q) q := fun _ h => h
  have hbA : ¬ (fun q : Nat => s.heap.size ≤ q) b := Nat.not_le.mpr hbl
  have hi1 : vp_in (nI i + 1) L := lw_in 1 hi hL (by decide)
  have hi2 : vp_in (nI i + 2) L := lw_in 2 hi hL (by decide)
  have hi3 : vp_in (nI i + 3) L := lw_in 3 hi hL (by decide)
  obtain ⟨r, WX', WM', mX, mM, hR'⟩ := s_next (l := l) (D := D) (N := 40000) (zb := zb) (zv := zv) (Nat.le_refl _) hR (xs (nI i + 1).toNatClampNeg) (xs (nI i + 2).toNatClampNeg) (xs (nI i + 3).toNatClampNeg)
  obtain ⟨fx, ex⟩ := RW_x hR
  obtain ⟨fm, em⟩ := RW_m hR
  refine lv_aload_n hx hb dL_law_944 rfl (lv_at hl 1 rfl) ?_
  refine lv_aload_n hx hb dL_law_945 rfl (lv_at hl 0 rfl) ?_
  refine lv_iload_n hx hb dL_law_946 rfl (lv_at hl 3 rfl) ?_
  refine lv_iconst (v := 1) hx hb dL_law_947 (by decide) ?_
  refine lv_iadd hx hb dL_law_948 ?_
  refine va_sld hx hb hX hbl hbA hS hi1 dL_law_949 ?_
  refine lv_aload_n hx hb dL_law_950 rfl (lv_at hl 0 rfl) ?_
  refine lv_iload_n hx hb dL_law_951 rfl (lv_at hl 3 rfl) ?_
  refine lv_iconst (v := 2) hx hb dL_law_952 (by decide) ?_
  refine lv_iadd hx hb dL_law_953 ?_
  refine va_sld hx hb hX hbl hbA hS hi2 dL_law_954 ?_
  refine lv_aload_n hx hb dL_law_955 rfl (lv_at hl 0 rfl) ?_
  refine lv_iload_n hx hb dL_law_956 rfl (lv_at hl 3 rfl) ?_
  refine lv_iconst (v := 3) hx hb dL_law_957 (by decide) ?_
  refine lv_iadd hx hb dL_law_958 ?_
  refine va_sld hx hb hX hbl hbA hS hi3 dL_law_959 ?_
  refine lcI (As := [.int (xs (nI i + 1).toNatClampNeg), .int (xs (nI i + 2).toNatClampNeg), .int (xs (nI i + 3).toNatClampNeg)]) (rest := []) ⟨hx, hb, hml, hown, hts⟩ mX (cwV 3 hts (gLV wm_737 wm_738 wm_739 wm_2 wm_740) rfl rfl rfl qd_X10_next ⟨(Nat.le_of_ble_eq_true rfl), (Nat.le_of_ble_eq_true rfl)⟩) hZ hK hP hD hS hA ex rfl rfl hl.1 rfl (Nat.le_of_ble_eq_true rfl) dL_law_960 ⟨Nat.le_refl _, Nat.le_refl _⟩ (fun H locs hP hD hS => ?_)
  refine lv_aload_n hx hb dL_law_963 rfl (lv_at hl 2 rfl) ?_
  refine lv_aload_n hx hb dL_law_964 rfl (lv_at hl 0 rfl) ?_
  refine lv_iload_n hx hb dL_law_965 rfl (lv_at hl 3 rfl) ?_
  refine lv_iconst (v := 1) hx hb dL_law_966 (by decide) ?_
  refine lv_iadd hx hb dL_law_967 ?_
  refine va_sld hx hb hX hbl hbA hS hi1 dL_law_968 ?_
  refine lv_aload_n hx hb dL_law_969 rfl (lv_at hl 0 rfl) ?_
  refine lv_iload_n hx hb dL_law_970 rfl (lv_at hl 3 rfl) ?_
  refine lv_iconst (v := 2) hx hb dL_law_971 (by decide) ?_
  refine lv_iadd hx hb dL_law_972 ?_
  refine va_sld hx hb hX hbl hbA hS hi2 dL_law_973 ?_
  refine lv_aload_n hx hb dL_law_974 rfl (lv_at hl 0 rfl) ?_
  refine lv_iload_n hx hb dL_law_975 rfl (lv_at hl 3 rfl) ?_
  refine lv_iconst (v := 3) hx hb dL_law_976 (by decide) ?_
  refine lv_iadd hx hb dL_law_977 ?_
  refine va_sld hx hb hX hbl hbA hS hi3 dL_law_978 ?_
  refine lcI (As := [.int (xs (nI i + 1).toNatClampNeg), .int (xs (nI i + 2).toNatClampNeg), .int (xs (nI i + 3).toNatClampNeg)]) (rest := [.int r]) ⟨hx, hb, hml, hown, hts⟩ mM (cwV 3 hts (gLV wm_745 wm_746 wm_747 wm_5 wm_748) rfl rfl rfl qd_X11_next ⟨(Nat.le_of_ble_eq_true rfl), (Nat.le_of_ble_eq_true rfl)⟩) hZ hK hP hD hS hA em rfl rfl hl.1 rfl (Nat.le_of_ble_eq_true rfl) dL_law_979 ⟨Nat.le_refl _, Nat.le_refl _⟩ (fun H locs hP hD hS => ?_)
  refine lv_icmp_eq (tgt := 1282) hx hb dL_law_982 (by decide) (fun _ => ?_) (fun c9 => absurd rfl c9)
  exact nx WX' WM' H locs ls hR' hP hD hS hl
set_option maxHeartbeats 4000000 in
set_option maxRecDepth 100000 in
theorem lk_sheet {p : Program} {l : Launch} {e : Env} {s : State} {m : MethodId} {below : List Frame} {meth : Method} {c : Code} {b L : Nat} {xs : Nat → Int32} (C0 : lw_At p s m meth c b L xs) {D : va_G} {k : Nat → ClassId} {ax am : Nat → Nat} {zb zv i : Nat} (hi : i + 6 ≤ L) (hL : L ≤ 3072) (hZ : zS zb zv (fun q : Nat => s.heap.size ≤ q) s s.heap) (hK : va_K D vwCl (xTys k) s) {WX WM : va_W} (hR : RW k ax am WX WM) {H : Heap} {locs : List Loc} (hP : va_P D vwCl (WX ++ WM) H) (hD : va_D (fun q : Nat => s.heap.size ≤ q) (WX ++ WM)) (hS : va_S (fun q : Nat => s.heap.size ≤ q) s.heap H locs) {ls : Array Slot} (hl : lv_has ls 4 [(0, .ref b), (1, .ref (ax 0)), (2, .ref (am 0)), (3, .int (nI i))]) (nx : lwNext p l e s m below meth c b D k ax am i) : W p l e room_1 s m #[Value.ref b] below meth c H locs 600000 7302250 (lw_Z below #[Value.ref b] s) (F0 m 987 ls []) := by
  obtain ⟨hx, hb, hr, hml, hown, hts, hX, hbl, hlocks, hgv⟩ := C0
  have hb : c.code = cL_law := hb
  have hown : s.vm.findClass RL = some m.cls := hown
  have hA : ∀ q : Nat, s.heap.size ≤ q → (fun q : Nat => s.heap.size ≤ q) q := fun _ h => h
  have hbA : ¬ (fun q : Nat => s.heap.size ≤ q) b := Nat.not_le.mpr hbl
  have hi1 : vp_in (nI i + 1) L := lw_in 1 hi hL (by decide)
  have hi2 : vp_in (nI i + 2) L := lw_in 2 hi hL (by decide)
  have hi3 : vp_in (nI i + 3) L := lw_in 3 hi hL (by decide)
  obtain ⟨r, WX', WM', mX, mM, hR'⟩ := s_sheet (l := l) (D := D) (N := 40000) (zb := zb) (zv := zv) (Nat.le_refl _) hR (xs (nI i + 1).toNatClampNeg) (xs (nI i + 2).toNatClampNeg) (xs (nI i + 3).toNatClampNeg)
  obtain ⟨fx, ex⟩ := RW_x hR
  obtain ⟨fm, em⟩ := RW_m hR
  refine lv_aload_n hx hb dL_law_987 rfl (lv_at hl 1 rfl) ?_
  refine lv_aload_n hx hb dL_law_988 rfl (lv_at hl 0 rfl) ?_
  refine lv_iload_n hx hb dL_law_989 rfl (lv_at hl 3 rfl) ?_
  refine lv_iconst (v := 1) hx hb dL_law_990 (by decide) ?_
  refine lv_iadd hx hb dL_law_991 ?_
  refine va_sld hx hb hX hbl hbA hS hi1 dL_law_992 ?_
  refine lv_aload_n hx hb dL_law_993 rfl (lv_at hl 0 rfl) ?_
  refine lv_iload_n hx hb dL_law_994 rfl (lv_at hl 3 rfl) ?_
  refine lv_iconst (v := 2) hx hb dL_law_995 (by decide) ?_
  refine lv_iadd hx hb dL_law_996 ?_
  refine va_sld hx hb hX hbl hbA hS hi2 dL_law_997 ?_
  refine lv_aload_n hx hb dL_law_998 rfl (lv_at hl 0 rfl) ?_
  refine lv_iload_n hx hb dL_law_999 rfl (lv_at hl 3 rfl) ?_
  refine lv_iconst (v := 3) hx hb dL_law_1000 (by decide) ?_
  refine lv_iadd hx hb dL_law_1001 ?_
  refine va_sld hx hb hX hbl hbA hS hi3 dL_law_1002 ?_
  refine lcI (As := [.int (xs (nI i + 1).toNatClampNeg), .int (xs (nI i + 2).toNatClampNeg), .int (xs (nI i + 3).toNatClampNeg)]) (rest := []) ⟨hx, hb, hml, hown, hts⟩ mX (cwV 3 hts (gLV wm_750 wm_751 wm_752 wm_2 wm_753) rfl rfl rfl qd_X10_sheet ⟨(Nat.le_of_ble_eq_true rfl), (Nat.le_of_ble_eq_true rfl)⟩) hZ hK hP hD hS hA ex rfl rfl hl.1 rfl (Nat.le_of_ble_eq_true rfl) dL_law_1003 ⟨Nat.le_refl _, Nat.le_refl _⟩ (fun H locs hP hD hS => ?_)
  refine lv_aload_n hx hb dL_law_1006 rfl (lv_at hl 2 rfl) ?_
  refine lv_aload_n hx hb dL_law_1007 rfl (lv_at hl 0 rfl) ?_
  refine lv_iload_n hx hb dL_law_1008 rfl (lv_at hl 3 rfl) ?_
  refine lv_iconst (v := 1) hx hb dL_law_1009 (by decide) ?_
  refine lv_iadd hx hb dL_law_1010 ?_
  refine va_sld hx hb hX hbl hbA hS hi1 dL_law_1011 ?_
  refine lv_aload_n hx hb dL_law_1012 rfl (lv_at hl 0 rfl) ?_
  refine lv_iload_n hx hb dL_law_1013 rfl (lv_at hl 3 rfl) ?_
  refine lv_iconst (v := 2) hx hb dL_law_1014 (by decide) ?_
  refine lv_iadd hx hb dL_law_1015 ?_
  refine va_sld hx hb hX hbl hbA hS hi2 dL_law_1016 ?_
  refine lv_aload_n hx hb dL_law_1017 rfl (lv_at hl 0 rfl) ?_
  refine lv_iload_n hx hb dL_law_1018 rfl (lv_at hl 3 rfl) ?_
  refine lv_iconst (v := 3) hx hb dL_law_1019 (by decide) ?_
  refine lv_iadd hx hb dL_law_1020 ?_
  refine va_sld hx hb hX hbl hbA hS hi3 dL_law_1021 ?_
  refine lcI (As := [.int (xs (nI i + 1).toNatClampNeg), .int (xs (nI i + 2).toNatClampNeg), .int (xs (nI i + 3).toNatClampNeg)]) (rest := [.int r]) ⟨hx, hb, hml, hown, hts⟩ mM (cwV 3 hts (gLV wm_763 wm_764 wm_765 wm_5 wm_766) rfl rfl rfl qd_X11_sheet ⟨(Nat.le_of_ble_eq_true rfl), (Nat.le_of_ble_eq_true rfl)⟩) hZ hK hP hD hS hA em rfl rfl hl.1 rfl (Nat.le_of_ble_eq_true rfl) dL_law_1022 ⟨Nat.le_refl _, Nat.le_refl _⟩ (fun H locs hP hD hS => ?_)
  refine lv_icmp_eq (tgt := 1282) hx hb dL_law_1025 (by decide) (fun _ => ?_) (fun c9 => absurd rfl c9)
  exact nx WX' WM' H locs ls hR' hP hD hS hl
set_option maxHeartbeats 4000000 in
set_option maxRecDepth 100000 in
theorem lk_lose {p : Program} {l : Launch} {e : Env} {s : State} {m : MethodId} {below : List Frame} {meth : Method} {c : Code} {b L : Nat} {xs : Nat → Int32} (C0 : lw_At p s m meth c b L xs) {D : va_G} {k : Nat → ClassId} {ax am : Nat → Nat} {zb zv i : Nat} (hi : i + 6 ≤ L) (hL : L ≤ 3072) (hZ : zS zb zv (fun q : Nat => s.heap.size ≤ q) s s.heap) (hK : va_K D vwCl (xTys k) s) {WX WM : va_W} (hR : RW k ax am WX WM) {H : Heap} {locs : List Loc} (hP : va_P D vwCl (WX ++ WM) H) (hD : va_D (fun q : Nat => s.heap.size ≤ q) (WX ++ WM)) (hS : va_S (fun q : Nat => s.heap.size ≤ q) s.heap H locs) {ls : Array Slot} (hl : lv_has ls 4 [(0, .ref b), (1, .ref (ax 0)), (2, .ref (am 0)), (3, .int (nI i))]) (nx : lwNext p l e s m below meth c b D k ax am i) : W p l e room_1 s m #[Value.ref b] below meth c H locs 600000 7302250 (lw_Z below #[Value.ref b] s) (F0 m 1030 ls []) := by
  obtain ⟨hx, hb, hr, hml, hown, hts, hX, hbl, hlocks, hgv⟩ := C0
  have hb : c.code = cL_law := hb
  have hown : s.vm.findClass RL = some m.cls := hown
  have hA : ∀ q : Nat, s.heap.size ≤ q → (fun q : Nat => s.heap.size ≤ q) q := fun _ h => h
  have hbA : ¬ (fun q : Nat => s.heap.size ≤ q) b := Nat.not_le.mpr hbl
  have hi1 : vp_in (nI i + 1) L := lw_in 1 hi hL (by decide)
  obtain ⟨r, WX', WM', mX, mM, hR'⟩ := s_lose (l := l) (D := D) (N := 40000) (zb := zb) (zv := zv) (Nat.le_refl _) hR (xs (nI i + 1).toNatClampNeg)
  obtain ⟨fx, ex⟩ := RW_x hR
  obtain ⟨fm, em⟩ := RW_m hR
  refine lv_aload_n hx hb dL_law_1030 rfl (lv_at hl 1 rfl) ?_
  refine lv_aload_n hx hb dL_law_1031 rfl (lv_at hl 0 rfl) ?_
  refine lv_iload_n hx hb dL_law_1032 rfl (lv_at hl 3 rfl) ?_
  refine lv_iconst (v := 1) hx hb dL_law_1033 (by decide) ?_
  refine lv_iadd hx hb dL_law_1034 ?_
  refine va_sld hx hb hX hbl hbA hS hi1 dL_law_1035 ?_
  refine lcI (As := [.int (xs (nI i + 1).toNatClampNeg)]) (rest := []) ⟨hx, hb, hml, hown, hts⟩ mX (cwV 1 hts (gLV wm_767 wm_768 wm_769 wm_2 wm_770) rfl rfl rfl qd_X10_lose ⟨(Nat.le_of_ble_eq_true rfl), (Nat.le_of_ble_eq_true rfl)⟩) hZ hK hP hD hS hA ex rfl rfl hl.1 rfl (Nat.le_of_ble_eq_true rfl) dL_law_1036 ⟨Nat.le_refl _, Nat.le_refl _⟩ (fun H locs hP hD hS => ?_)
  refine lv_aload_n hx hb dL_law_1039 rfl (lv_at hl 2 rfl) ?_
  refine lv_aload_n hx hb dL_law_1040 rfl (lv_at hl 0 rfl) ?_
  refine lv_iload_n hx hb dL_law_1041 rfl (lv_at hl 3 rfl) ?_
  refine lv_iconst (v := 1) hx hb dL_law_1042 (by decide) ?_
  refine lv_iadd hx hb dL_law_1043 ?_
  refine va_sld hx hb hX hbl hbA hS hi1 dL_law_1044 ?_
  refine lcI (As := [.int (xs (nI i + 1).toNatClampNeg)]) (rest := [.int r]) ⟨hx, hb, hml, hown, hts⟩ mM (cwV 1 hts (gLV wm_771 wm_772 wm_773 wm_5 wm_774) rfl rfl rfl qd_X11_lose ⟨(Nat.le_of_ble_eq_true rfl), (Nat.le_of_ble_eq_true rfl)⟩) hZ hK hP hD hS hA em rfl rfl hl.1 rfl (Nat.le_of_ble_eq_true rfl) dL_law_1045 ⟨Nat.le_refl _, Nat.le_refl _⟩ (fun H locs hP hD hS => ?_)
  refine lv_icmp_eq (tgt := 1282) hx hb dL_law_1048 (by decide) (fun _ => ?_) (fun c9 => absurd rfl c9)
  exact nx WX' WM' H locs ls hR' hP hD hS hl
set_option maxHeartbeats 4000000 in
set_option maxRecDepth 100000 in
theorem lk_put {p : Program} {l : Launch} {e : Env} {s : State} {m : MethodId} {below : List Frame} {meth : Method} {c : Code} {b L : Nat} {xs : Nat → Int32} (C0 : lw_At p s m meth c b L xs) {D : va_G} {k : Nat → ClassId} {ax am : Nat → Nat} {zb zv i : Nat} (hi : i + 6 ≤ L) (hL : L ≤ 3072) (hZ : zS zb zv (fun q : Nat => s.heap.size ≤ q) s s.heap) (hK : va_K D vwCl (xTys k) s) {WX WM : va_W} (hR : RW k ax am WX WM) {H : Heap} {locs : List Loc} (hP : va_P D vwCl (WX ++ WM) H) (hD : va_D (fun q : Nat => s.heap.size ≤ q) (WX ++ WM)) (hS : va_S (fun q : Nat => s.heap.size ≤ q) s.heap H locs) {ls : Array Slot} (hl : lv_has ls 4 [(0, .ref b), (1, .ref (ax 0)), (2, .ref (am 0)), (3, .int (nI i))]) (nx : lwNext p l e s m below meth c b D k ax am i) : W p l e room_1 s m #[Value.ref b] below meth c H locs 600000 7302250 (lw_Z below #[Value.ref b] s) (F0 m 1053 ls []) := by
  obtain ⟨hx, hb, hr, hml, hown, hts, hX, hbl, hlocks, hgv⟩ := C0
  have hb : c.code = cL_law := hb
  have hown : s.vm.findClass RL = some m.cls := hown
  have hA : ∀ q : Nat, s.heap.size ≤ q → (fun q : Nat => s.heap.size ≤ q) q := fun _ h => h
  have hbA : ¬ (fun q : Nat => s.heap.size ≤ q) b := Nat.not_le.mpr hbl
  have hi1 : vp_in (nI i + 1) L := lw_in 1 hi hL (by decide)
  have hi2 : vp_in (nI i + 2) L := lw_in 2 hi hL (by decide)
  have hi3 : vp_in (nI i + 3) L := lw_in 3 hi hL (by decide)
  have hi4 : vp_in (nI i + 4) L := lw_in 4 hi hL (by decide)
  obtain ⟨r, WX', WM', mX, mM, hR'⟩ := s_put (l := l) (D := D) (N := 40000) (zb := zb) (zv := zv) (Nat.le_refl _) hR (xs (nI i + 1).toNatClampNeg) (xs (nI i + 2).toNatClampNeg) (xs (nI i + 3).toNatClampNeg) (xs (nI i + 4).toNatClampNeg)
  obtain ⟨fx, ex⟩ := RW_x hR
  obtain ⟨fm, em⟩ := RW_m hR
  refine lv_aload_n hx hb dL_law_1053 rfl (lv_at hl 1 rfl) ?_
  refine lv_aload_n hx hb dL_law_1054 rfl (lv_at hl 0 rfl) ?_
  refine lv_iload_n hx hb dL_law_1055 rfl (lv_at hl 3 rfl) ?_
  refine lv_iconst (v := 1) hx hb dL_law_1056 (by decide) ?_
  refine lv_iadd hx hb dL_law_1057 ?_
  refine va_sld hx hb hX hbl hbA hS hi1 dL_law_1058 ?_
  refine lv_aload_n hx hb dL_law_1059 rfl (lv_at hl 0 rfl) ?_
  refine lv_iload_n hx hb dL_law_1060 rfl (lv_at hl 3 rfl) ?_
  refine lv_iconst (v := 2) hx hb dL_law_1061 (by decide) ?_
  refine lv_iadd hx hb dL_law_1062 ?_
  refine va_sld hx hb hX hbl hbA hS hi2 dL_law_1063 ?_
  refine lv_aload_n hx hb dL_law_1064 rfl (lv_at hl 0 rfl) ?_
  refine lv_iload_n hx hb dL_law_1065 rfl (lv_at hl 3 rfl) ?_
  refine lv_iconst (v := 3) hx hb dL_law_1066 (by decide) ?_
  refine lv_iadd hx hb dL_law_1067 ?_
  refine va_sld hx hb hX hbl hbA hS hi3 dL_law_1068 ?_
  refine lv_aload_n hx hb dL_law_1069 rfl (lv_at hl 0 rfl) ?_
  refine lv_iload_n hx hb dL_law_1070 rfl (lv_at hl 3 rfl) ?_
  refine lv_iconst (v := 4) hx hb dL_law_1071 (by decide) ?_
  refine lv_iadd hx hb dL_law_1072 ?_
  refine va_sld hx hb hX hbl hbA hS hi4 dL_law_1073 ?_
  refine lcI (As := [.int (xs (nI i + 1).toNatClampNeg), .int (xs (nI i + 2).toNatClampNeg), .int (xs (nI i + 3).toNatClampNeg), .int (xs (nI i + 4).toNatClampNeg)]) (rest := []) ⟨hx, hb, hml, hown, hts⟩ mX (cwV 4 hts (gLV wm_775 wm_776 wm_777 wm_2 wm_778) rfl rfl rfl qd_X10_put ⟨(Nat.le_of_ble_eq_true rfl), (Nat.le_of_ble_eq_true rfl)⟩) hZ hK hP hD hS hA ex rfl rfl hl.1 rfl (Nat.le_of_ble_eq_true rfl) dL_law_1074 ⟨Nat.le_refl _, Nat.le_refl _⟩ (fun H locs hP hD hS => ?_)
  refine lv_aload_n hx hb dL_law_1077 rfl (lv_at hl 2 rfl) ?_
  refine lv_aload_n hx hb dL_law_1078 rfl (lv_at hl 0 rfl) ?_
  refine lv_iload_n hx hb dL_law_1079 rfl (lv_at hl 3 rfl) ?_
  refine lv_iconst (v := 1) hx hb dL_law_1080 (by decide) ?_
  refine lv_iadd hx hb dL_law_1081 ?_
  refine va_sld hx hb hX hbl hbA hS hi1 dL_law_1082 ?_
  refine lv_aload_n hx hb dL_law_1083 rfl (lv_at hl 0 rfl) ?_
  refine lv_iload_n hx hb dL_law_1084 rfl (lv_at hl 3 rfl) ?_
  refine lv_iconst (v := 2) hx hb dL_law_1085 (by decide) ?_
  refine lv_iadd hx hb dL_law_1086 ?_
  refine va_sld hx hb hX hbl hbA hS hi2 dL_law_1087 ?_
  refine lv_aload_n hx hb dL_law_1088 rfl (lv_at hl 0 rfl) ?_
  refine lv_iload_n hx hb dL_law_1089 rfl (lv_at hl 3 rfl) ?_
  refine lv_iconst (v := 3) hx hb dL_law_1090 (by decide) ?_
  refine lv_iadd hx hb dL_law_1091 ?_
  refine va_sld hx hb hX hbl hbA hS hi3 dL_law_1092 ?_
  refine lv_aload_n hx hb dL_law_1093 rfl (lv_at hl 0 rfl) ?_
  refine lv_iload_n hx hb dL_law_1094 rfl (lv_at hl 3 rfl) ?_
  refine lv_iconst (v := 4) hx hb dL_law_1095 (by decide) ?_
  refine lv_iadd hx hb dL_law_1096 ?_
  refine va_sld hx hb hX hbl hbA hS hi4 dL_law_1097 ?_
  refine lcI (As := [.int (xs (nI i + 1).toNatClampNeg), .int (xs (nI i + 2).toNatClampNeg), .int (xs (nI i + 3).toNatClampNeg), .int (xs (nI i + 4).toNatClampNeg)]) (rest := [.int r]) ⟨hx, hb, hml, hown, hts⟩ mM (cwV 4 hts (gLV wm_788 wm_789 wm_790 wm_5 wm_791) rfl rfl rfl qd_X11_put ⟨(Nat.le_of_ble_eq_true rfl), (Nat.le_of_ble_eq_true rfl)⟩) hZ hK hP hD hS hA em rfl rfl hl.1 rfl (Nat.le_of_ble_eq_true rfl) dL_law_1098 ⟨Nat.le_refl _, Nat.le_refl _⟩ (fun H locs hP hD hS => ?_)
  refine lv_icmp_eq (tgt := 1282) hx hb dL_law_1101 (by decide) (fun _ => ?_) (fun c9 => absurd rfl c9)
  exact nx WX' WM' H locs ls hR' hP hD hS hl
set_option maxHeartbeats 4000000 in
set_option maxRecDepth 100000 in
theorem lk_get {p : Program} {l : Launch} {e : Env} {s : State} {m : MethodId} {below : List Frame} {meth : Method} {c : Code} {b L : Nat} {xs : Nat → Int32} (C0 : lw_At p s m meth c b L xs) {D : va_G} {k : Nat → ClassId} {ax am : Nat → Nat} {zb zv i : Nat} (hi : i + 6 ≤ L) (hL : L ≤ 3072) (hZ : zS zb zv (fun q : Nat => s.heap.size ≤ q) s s.heap) (hK : va_K D vwCl (xTys k) s) {WX WM : va_W} (hR : RW k ax am WX WM) {H : Heap} {locs : List Loc} (hP : va_P D vwCl (WX ++ WM) H) (hD : va_D (fun q : Nat => s.heap.size ≤ q) (WX ++ WM)) (hS : va_S (fun q : Nat => s.heap.size ≤ q) s.heap H locs) {ls : Array Slot} (hl : lv_has ls 4 [(0, .ref b), (1, .ref (ax 0)), (2, .ref (am 0)), (3, .int (nI i))]) (nx : lwNext p l e s m below meth c b D k ax am i) : W p l e room_1 s m #[Value.ref b] below meth c H locs 600000 7302250 (lw_Z below #[Value.ref b] s) (F0 m 1106 ls []) := by
  obtain ⟨hx, hb, hr, hml, hown, hts, hX, hbl, hlocks, hgv⟩ := C0
  have hb : c.code = cL_law := hb
  have hown : s.vm.findClass RL = some m.cls := hown
  have hA : ∀ q : Nat, s.heap.size ≤ q → (fun q : Nat => s.heap.size ≤ q) q := fun _ h => h
  have hbA : ¬ (fun q : Nat => s.heap.size ≤ q) b := Nat.not_le.mpr hbl
  have hi1 : vp_in (nI i + 1) L := lw_in 1 hi hL (by decide)
  have hi2 : vp_in (nI i + 2) L := lw_in 2 hi hL (by decide)
  have hi3 : vp_in (nI i + 3) L := lw_in 3 hi hL (by decide)
  obtain ⟨r, WX', WM', mX, mM, hR'⟩ := s_get (l := l) (D := D) (N := 40000) (zb := zb) (zv := zv) (Nat.le_refl _) hR (xs (nI i + 1).toNatClampNeg) (xs (nI i + 2).toNatClampNeg) (xs (nI i + 3).toNatClampNeg)
  obtain ⟨fx, ex⟩ := RW_x hR
  obtain ⟨fm, em⟩ := RW_m hR
  refine lv_aload_n hx hb dL_law_1106 rfl (lv_at hl 1 rfl) ?_
  refine lv_aload_n hx hb dL_law_1107 rfl (lv_at hl 0 rfl) ?_
  refine lv_iload_n hx hb dL_law_1108 rfl (lv_at hl 3 rfl) ?_
  refine lv_iconst (v := 1) hx hb dL_law_1109 (by decide) ?_
  refine lv_iadd hx hb dL_law_1110 ?_
  refine va_sld hx hb hX hbl hbA hS hi1 dL_law_1111 ?_
  refine lv_aload_n hx hb dL_law_1112 rfl (lv_at hl 0 rfl) ?_
  refine lv_iload_n hx hb dL_law_1113 rfl (lv_at hl 3 rfl) ?_
  refine lv_iconst (v := 2) hx hb dL_law_1114 (by decide) ?_
  refine lv_iadd hx hb dL_law_1115 ?_
  refine va_sld hx hb hX hbl hbA hS hi2 dL_law_1116 ?_
  refine lv_aload_n hx hb dL_law_1117 rfl (lv_at hl 0 rfl) ?_
  refine lv_iload_n hx hb dL_law_1118 rfl (lv_at hl 3 rfl) ?_
  refine lv_iconst (v := 3) hx hb dL_law_1119 (by decide) ?_
  refine lv_iadd hx hb dL_law_1120 ?_
  refine va_sld hx hb hX hbl hbA hS hi3 dL_law_1121 ?_
  refine lcI (As := [.int (xs (nI i + 1).toNatClampNeg), .int (xs (nI i + 2).toNatClampNeg), .int (xs (nI i + 3).toNatClampNeg)]) (rest := []) ⟨hx, hb, hml, hown, hts⟩ mX (cwV 3 hts (gLV wm_800 wm_801 wm_802 wm_2 wm_803) rfl rfl rfl qd_X10_get ⟨(Nat.le_of_ble_eq_true rfl), (Nat.le_of_ble_eq_true rfl)⟩) hZ hK hP hD hS hA ex rfl rfl hl.1 rfl (Nat.le_of_ble_eq_true rfl) dL_law_1122 ⟨Nat.le_refl _, Nat.le_refl _⟩ (fun H locs hP hD hS => ?_)
  refine lv_aload_n hx hb dL_law_1125 rfl (lv_at hl 2 rfl) ?_
  refine lv_aload_n hx hb dL_law_1126 rfl (lv_at hl 0 rfl) ?_
  refine lv_iload_n hx hb dL_law_1127 rfl (lv_at hl 3 rfl) ?_
  refine lv_iconst (v := 1) hx hb dL_law_1128 (by decide) ?_
  refine lv_iadd hx hb dL_law_1129 ?_
  refine va_sld hx hb hX hbl hbA hS hi1 dL_law_1130 ?_
  refine lv_aload_n hx hb dL_law_1131 rfl (lv_at hl 0 rfl) ?_
  refine lv_iload_n hx hb dL_law_1132 rfl (lv_at hl 3 rfl) ?_
  refine lv_iconst (v := 2) hx hb dL_law_1133 (by decide) ?_
  refine lv_iadd hx hb dL_law_1134 ?_
  refine va_sld hx hb hX hbl hbA hS hi2 dL_law_1135 ?_
  refine lv_aload_n hx hb dL_law_1136 rfl (lv_at hl 0 rfl) ?_
  refine lv_iload_n hx hb dL_law_1137 rfl (lv_at hl 3 rfl) ?_
  refine lv_iconst (v := 3) hx hb dL_law_1138 (by decide) ?_
  refine lv_iadd hx hb dL_law_1139 ?_
  refine va_sld hx hb hX hbl hbA hS hi3 dL_law_1140 ?_
  refine lcI (As := [.int (xs (nI i + 1).toNatClampNeg), .int (xs (nI i + 2).toNatClampNeg), .int (xs (nI i + 3).toNatClampNeg)]) (rest := [.int r]) ⟨hx, hb, hml, hown, hts⟩ mM (cwV 3 hts (gLV wm_805 wm_806 wm_807 wm_5 wm_808) rfl rfl rfl qd_X11_get ⟨(Nat.le_of_ble_eq_true rfl), (Nat.le_of_ble_eq_true rfl)⟩) hZ hK hP hD hS hA em rfl rfl hl.1 rfl (Nat.le_of_ble_eq_true rfl) dL_law_1141 ⟨Nat.le_refl _, Nat.le_refl _⟩ (fun H locs hP hD hS => ?_)
  refine lv_icmp_eq (tgt := 1282) hx hb dL_law_1144 (by decide) (fun _ => ?_) (fun c9 => absurd rfl c9)
  exact nx WX' WM' H locs ls hR' hP hD hS hl
set_option maxHeartbeats 4000000 in
set_option maxRecDepth 100000 in
theorem lk_copy {p : Program} {l : Launch} {e : Env} {s : State} {m : MethodId} {below : List Frame} {meth : Method} {c : Code} {b L : Nat} {xs : Nat → Int32} (C0 : lw_At p s m meth c b L xs) {D : va_G} {k : Nat → ClassId} {ax am : Nat → Nat} {zb zv i : Nat} (hi : i + 6 ≤ L) (hL : L ≤ 3072) (hZ : zS zb zv (fun q : Nat => s.heap.size ≤ q) s s.heap) (hK : va_K D vwCl (xTys k) s) {WX WM : va_W} (hR : RW k ax am WX WM) {H : Heap} {locs : List Loc} (hP : va_P D vwCl (WX ++ WM) H) (hD : va_D (fun q : Nat => s.heap.size ≤ q) (WX ++ WM)) (hS : va_S (fun q : Nat => s.heap.size ≤ q) s.heap H locs) {ls : Array Slot} (hl : lv_has ls 4 [(0, .ref b), (1, .ref (ax 0)), (2, .ref (am 0)), (3, .int (nI i))]) (nx : lwNext p l e s m below meth c b D k ax am i) : W p l e room_1 s m #[Value.ref b] below meth c H locs 600000 7302250 (lw_Z below #[Value.ref b] s) (F0 m 1149 ls []) := by
  obtain ⟨hx, hb, hr, hml, hown, hts, hX, hbl, hlocks, hgv⟩ := C0
  have hb : c.code = cL_law := hb
  have hown : s.vm.findClass RL = some m.cls := hown
  have hA : ∀ q : Nat, s.heap.size ≤ q → (fun q : Nat => s.heap.size ≤ q) q := fun _ h => h
  have hbA : ¬ (fun q : Nat => s.heap.size ≤ q) b := Nat.not_le.mpr hbl
  have hi1 : vp_in (nI i + 1) L := lw_in 1 hi hL (by decide)
  have hi2 : vp_in (nI i + 2) L := lw_in 2 hi hL (by decide)
  have hi3 : vp_in (nI i + 3) L := lw_in 3 hi hL (by decide)
  have hi4 : vp_in (nI i + 4) L := lw_in 4 hi hL (by decide)
  have hi5 : vp_in (nI i + 5) L := lw_in 5 hi hL (by decide)
  obtain ⟨r, WX', WM', mX, mM, hR'⟩ := s_copy (l := l) (D := D) (N := 40000) (zb := zb) (zv := zv) (Nat.le_refl _) hR (xs (nI i + 1).toNatClampNeg) (xs (nI i + 2).toNatClampNeg) (xs (nI i + 3).toNatClampNeg) (xs (nI i + 4).toNatClampNeg) (xs (nI i + 5).toNatClampNeg)
  obtain ⟨fx, ex⟩ := RW_x hR
  obtain ⟨fm, em⟩ := RW_m hR
  refine lv_aload_n hx hb dL_law_1149 rfl (lv_at hl 1 rfl) ?_
  refine lv_aload_n hx hb dL_law_1150 rfl (lv_at hl 0 rfl) ?_
  refine lv_iload_n hx hb dL_law_1151 rfl (lv_at hl 3 rfl) ?_
  refine lv_iconst (v := 1) hx hb dL_law_1152 (by decide) ?_
  refine lv_iadd hx hb dL_law_1153 ?_
  refine va_sld hx hb hX hbl hbA hS hi1 dL_law_1154 ?_
  refine lv_aload_n hx hb dL_law_1155 rfl (lv_at hl 0 rfl) ?_
  refine lv_iload_n hx hb dL_law_1156 rfl (lv_at hl 3 rfl) ?_
  refine lv_iconst (v := 2) hx hb dL_law_1157 (by decide) ?_
  refine lv_iadd hx hb dL_law_1158 ?_
  refine va_sld hx hb hX hbl hbA hS hi2 dL_law_1159 ?_
  refine lv_aload_n hx hb dL_law_1160 rfl (lv_at hl 0 rfl) ?_
  refine lv_iload_n hx hb dL_law_1161 rfl (lv_at hl 3 rfl) ?_
  refine lv_iconst (v := 3) hx hb dL_law_1162 (by decide) ?_
  refine lv_iadd hx hb dL_law_1163 ?_
  refine va_sld hx hb hX hbl hbA hS hi3 dL_law_1164 ?_
  refine lv_aload_n hx hb dL_law_1165 rfl (lv_at hl 0 rfl) ?_
  refine lv_iload_n hx hb dL_law_1166 rfl (lv_at hl 3 rfl) ?_
  refine lv_iconst (v := 4) hx hb dL_law_1167 (by decide) ?_
  refine lv_iadd hx hb dL_law_1168 ?_
  refine va_sld hx hb hX hbl hbA hS hi4 dL_law_1169 ?_
  refine lv_aload_n hx hb dL_law_1170 rfl (lv_at hl 0 rfl) ?_
  refine lv_iload_n hx hb dL_law_1171 rfl (lv_at hl 3 rfl) ?_
  refine lv_iconst (v := 5) hx hb dL_law_1172 (by decide) ?_
  refine lv_iadd hx hb dL_law_1173 ?_
  refine va_sld hx hb hX hbl hbA hS hi5 dL_law_1174 ?_
  refine lcI (As := [.int (xs (nI i + 1).toNatClampNeg), .int (xs (nI i + 2).toNatClampNeg), .int (xs (nI i + 3).toNatClampNeg), .int (xs (nI i + 4).toNatClampNeg), .int (xs (nI i + 5).toNatClampNeg)]) (rest := []) ⟨hx, hb, hml, hown, hts⟩ mX (cwV 5 hts (gLV wm_810 wm_811 wm_812 wm_2 wm_813) rfl rfl rfl qd_X10_copy ⟨(Nat.le_of_ble_eq_true rfl), (Nat.le_of_ble_eq_true rfl)⟩) hZ hK hP hD hS hA ex rfl rfl hl.1 rfl (Nat.le_of_ble_eq_true rfl) dL_law_1175 ⟨Nat.le_refl _, Nat.le_refl _⟩ (fun H locs hP hD hS => ?_)
  refine lv_aload_n hx hb dL_law_1178 rfl (lv_at hl 2 rfl) ?_
  refine lv_aload_n hx hb dL_law_1179 rfl (lv_at hl 0 rfl) ?_
  refine lv_iload_n hx hb dL_law_1180 rfl (lv_at hl 3 rfl) ?_
  refine lv_iconst (v := 1) hx hb dL_law_1181 (by decide) ?_
  refine lv_iadd hx hb dL_law_1182 ?_
  refine va_sld hx hb hX hbl hbA hS hi1 dL_law_1183 ?_
  refine lv_aload_n hx hb dL_law_1184 rfl (lv_at hl 0 rfl) ?_
  refine lv_iload_n hx hb dL_law_1185 rfl (lv_at hl 3 rfl) ?_
  refine lv_iconst (v := 2) hx hb dL_law_1186 (by decide) ?_
  refine lv_iadd hx hb dL_law_1187 ?_
  refine va_sld hx hb hX hbl hbA hS hi2 dL_law_1188 ?_
  refine lv_aload_n hx hb dL_law_1189 rfl (lv_at hl 0 rfl) ?_
  refine lv_iload_n hx hb dL_law_1190 rfl (lv_at hl 3 rfl) ?_
  refine lv_iconst (v := 3) hx hb dL_law_1191 (by decide) ?_
  refine lv_iadd hx hb dL_law_1192 ?_
  refine va_sld hx hb hX hbl hbA hS hi3 dL_law_1193 ?_
  refine lv_aload_n hx hb dL_law_1194 rfl (lv_at hl 0 rfl) ?_
  refine lv_iload_n hx hb dL_law_1195 rfl (lv_at hl 3 rfl) ?_
  refine lv_iconst (v := 4) hx hb dL_law_1196 (by decide) ?_
  refine lv_iadd hx hb dL_law_1197 ?_
  refine va_sld hx hb hX hbl hbA hS hi4 dL_law_1198 ?_
  refine lv_aload_n hx hb dL_law_1199 rfl (lv_at hl 0 rfl) ?_
  refine lv_iload_n hx hb dL_law_1200 rfl (lv_at hl 3 rfl) ?_
  refine lv_iconst (v := 5) hx hb dL_law_1201 (by decide) ?_
  refine lv_iadd hx hb dL_law_1202 ?_
  refine va_sld hx hb hX hbl hbA hS hi5 dL_law_1203 ?_
  refine lcI (As := [.int (xs (nI i + 1).toNatClampNeg), .int (xs (nI i + 2).toNatClampNeg), .int (xs (nI i + 3).toNatClampNeg), .int (xs (nI i + 4).toNatClampNeg), .int (xs (nI i + 5).toNatClampNeg)]) (rest := [.int r]) ⟨hx, hb, hml, hown, hts⟩ mM (cwV 5 hts (gLV wm_822 wm_823 wm_824 wm_5 wm_825) rfl rfl rfl qd_X11_copy ⟨(Nat.le_of_ble_eq_true rfl), (Nat.le_of_ble_eq_true rfl)⟩) hZ hK hP hD hS hA em rfl rfl hl.1 rfl (Nat.le_of_ble_eq_true rfl) dL_law_1204 ⟨Nat.le_refl _, Nat.le_refl _⟩ (fun H locs hP hD hS => ?_)
  refine lv_icmp_eq (tgt := 1282) hx hb dL_law_1207 (by decide) (fun _ => ?_) (fun c9 => absurd rfl c9)
  exact nx WX' WM' H locs ls hR' hP hD hS hl
set_option maxHeartbeats 4000000 in
set_option maxRecDepth 100000 in
theorem lk_write {p : Program} {l : Launch} {e : Env} {s : State} {m : MethodId} {below : List Frame} {meth : Method} {c : Code} {b L : Nat} {xs : Nat → Int32} (C0 : lw_At p s m meth c b L xs) {D : va_G} {k : Nat → ClassId} {ax am : Nat → Nat} {zb zv i : Nat} (hi : i + 6 ≤ L) (hL : L ≤ 3072) (hZ : zS zb zv (fun q : Nat => s.heap.size ≤ q) s s.heap) (hK : va_K D vwCl (xTys k) s) {WX WM : va_W} (hR : RW k ax am WX WM) {H : Heap} {locs : List Loc} (hP : va_P D vwCl (WX ++ WM) H) (hD : va_D (fun q : Nat => s.heap.size ≤ q) (WX ++ WM)) (hS : va_S (fun q : Nat => s.heap.size ≤ q) s.heap H locs) {ls : Array Slot} (hl : lv_has ls 4 [(0, .ref b), (1, .ref (ax 0)), (2, .ref (am 0)), (3, .int (nI i))]) (nx : lwNext p l e s m below meth c b D k ax am i) : W p l e room_1 s m #[Value.ref b] below meth c H locs 600000 7302250 (lw_Z below #[Value.ref b] s) (F0 m 1212 ls []) := by
  obtain ⟨hx, hb, hr, hml, hown, hts, hX, hbl, hlocks, hgv⟩ := C0
  have hb : c.code = cL_law := hb
  have hown : s.vm.findClass RL = some m.cls := hown
  have hA : ∀ q : Nat, s.heap.size ≤ q → (fun q : Nat => s.heap.size ≤ q) q := fun _ h => h
  have hbA : ¬ (fun q : Nat => s.heap.size ≤ q) b := Nat.not_le.mpr hbl
  have hi1 : vp_in (nI i + 1) L := lw_in 1 hi hL (by decide)
  have hi2 : vp_in (nI i + 2) L := lw_in 2 hi hL (by decide)
  obtain ⟨r, WX', WM', mX, mM, hR'⟩ := s_write (l := l) (D := D) (N := 40000) (zb := zb) (zv := zv) (Nat.le_refl _) hR (xs (nI i + 1).toNatClampNeg) (xs (nI i + 2).toNatClampNeg)
  obtain ⟨fx, ex⟩ := RW_x hR
  obtain ⟨fm, em⟩ := RW_m hR
  refine lv_aload_n hx hb dL_law_1212 rfl (lv_at hl 1 rfl) ?_
  refine lv_aload_n hx hb dL_law_1213 rfl (lv_at hl 0 rfl) ?_
  refine lv_iload_n hx hb dL_law_1214 rfl (lv_at hl 3 rfl) ?_
  refine lv_iconst (v := 1) hx hb dL_law_1215 (by decide) ?_
  refine lv_iadd hx hb dL_law_1216 ?_
  refine va_sld hx hb hX hbl hbA hS hi1 dL_law_1217 ?_
  refine lv_aload_n hx hb dL_law_1218 rfl (lv_at hl 0 rfl) ?_
  refine lv_iload_n hx hb dL_law_1219 rfl (lv_at hl 3 rfl) ?_
  refine lv_iconst (v := 2) hx hb dL_law_1220 (by decide) ?_
  refine lv_iadd hx hb dL_law_1221 ?_
  refine va_sld hx hb hX hbl hbA hS hi2 dL_law_1222 ?_
  refine lcI (As := [.int (xs (nI i + 1).toNatClampNeg), .int (xs (nI i + 2).toNatClampNeg)]) (rest := []) ⟨hx, hb, hml, hown, hts⟩ mX (cwV 2 hts (gLV wm_826 wm_827 wm_828 wm_2 wm_829) rfl rfl rfl qd_X10_write ⟨(Nat.le_of_ble_eq_true rfl), (Nat.le_of_ble_eq_true rfl)⟩) hZ hK hP hD hS hA ex rfl rfl hl.1 rfl (Nat.le_of_ble_eq_true rfl) dL_law_1223 ⟨Nat.le_refl _, Nat.le_refl _⟩ (fun H locs hP hD hS => ?_)
  refine lv_aload_n hx hb dL_law_1226 rfl (lv_at hl 2 rfl) ?_
  refine lv_aload_n hx hb dL_law_1227 rfl (lv_at hl 0 rfl) ?_
  refine lv_iload_n hx hb dL_law_1228 rfl (lv_at hl 3 rfl) ?_
  refine lv_iconst (v := 1) hx hb dL_law_1229 (by decide) ?_
  refine lv_iadd hx hb dL_law_1230 ?_
  refine va_sld hx hb hX hbl hbA hS hi1 dL_law_1231 ?_
  refine lv_aload_n hx hb dL_law_1232 rfl (lv_at hl 0 rfl) ?_
  refine lv_iload_n hx hb dL_law_1233 rfl (lv_at hl 3 rfl) ?_
  refine lv_iconst (v := 2) hx hb dL_law_1234 (by decide) ?_
  refine lv_iadd hx hb dL_law_1235 ?_
  refine va_sld hx hb hX hbl hbA hS hi2 dL_law_1236 ?_
  refine lcI (As := [.int (xs (nI i + 1).toNatClampNeg), .int (xs (nI i + 2).toNatClampNeg)]) (rest := [.int r]) ⟨hx, hb, hml, hown, hts⟩ mM (cwV 2 hts (gLV wm_831 wm_832 wm_833 wm_5 wm_834) rfl rfl rfl qd_X11_write ⟨(Nat.le_of_ble_eq_true rfl), (Nat.le_of_ble_eq_true rfl)⟩) hZ hK hP hD hS hA em rfl rfl hl.1 rfl (Nat.le_of_ble_eq_true rfl) dL_law_1237 ⟨Nat.le_refl _, Nat.le_refl _⟩ (fun H locs hP hD hS => ?_)
  refine lv_icmp_eq (tgt := 1282) hx hb dL_law_1240 (by decide) (fun _ => ?_) (fun c9 => absurd rfl c9)
  exact nx WX' WM' H locs ls hR' hP hD hS hl
set_option maxHeartbeats 4000000 in
set_option maxRecDepth 100000 in
theorem lk_count {p : Program} {l : Launch} {e : Env} {s : State} {m : MethodId} {below : List Frame} {meth : Method} {c : Code} {b L : Nat} {xs : Nat → Int32} (C0 : lw_At p s m meth c b L xs) {D : va_G} {k : Nat → ClassId} {ax am : Nat → Nat} {zb zv i : Nat} (hi : i + 6 ≤ L) (hL : L ≤ 3072) (hZ : zS zb zv (fun q : Nat => s.heap.size ≤ q) s s.heap) (hK : va_K D vwCl (xTys k) s) {WX WM : va_W} (hR : RW k ax am WX WM) {H : Heap} {locs : List Loc} (hP : va_P D vwCl (WX ++ WM) H) (hD : va_D (fun q : Nat => s.heap.size ≤ q) (WX ++ WM)) (hS : va_S (fun q : Nat => s.heap.size ≤ q) s.heap H locs) {ls : Array Slot} (hl : lv_has ls 4 [(0, .ref b), (1, .ref (ax 0)), (2, .ref (am 0)), (3, .int (nI i))]) (nx : lwNext p l e s m below meth c b D k ax am i) : W p l e room_1 s m #[Value.ref b] below meth c H locs 600000 7302250 (lw_Z below #[Value.ref b] s) (F0 m 1245 ls []) := by
  obtain ⟨hx, hb, hr, hml, hown, hts, hX, hbl, hlocks, hgv⟩ := C0
  have hb : c.code = cL_law := hb
  have hown : s.vm.findClass RL = some m.cls := hown
  have hA : ∀ q : Nat, s.heap.size ≤ q → (fun q : Nat => s.heap.size ≤ q) q := fun _ h => h
  have hbA : ¬ (fun q : Nat => s.heap.size ≤ q) b := Nat.not_le.mpr hbl
  have hi1 : vp_in (nI i + 1) L := lw_in 1 hi hL (by decide)
  obtain ⟨r, WX', WM', mX, mM, hR'⟩ := s_count (l := l) (D := D) (N := 40000) (zb := zb) (zv := zv) (Nat.le_refl _) hR (xs (nI i + 1).toNatClampNeg)
  obtain ⟨fx, ex⟩ := RW_x hR
  obtain ⟨fm, em⟩ := RW_m hR
  refine lv_aload_n hx hb dL_law_1245 rfl (lv_at hl 1 rfl) ?_
  refine lv_aload_n hx hb dL_law_1246 rfl (lv_at hl 0 rfl) ?_
  refine lv_iload_n hx hb dL_law_1247 rfl (lv_at hl 3 rfl) ?_
  refine lv_iconst (v := 1) hx hb dL_law_1248 (by decide) ?_
  refine lv_iadd hx hb dL_law_1249 ?_
  refine va_sld hx hb hX hbl hbA hS hi1 dL_law_1250 ?_
  refine lcI (As := [.int (xs (nI i + 1).toNatClampNeg)]) (rest := []) ⟨hx, hb, hml, hown, hts⟩ mX (cwV 1 hts (gLV wm_835 wm_836 wm_837 wm_2 wm_838) rfl rfl rfl qd_X10_count ⟨(Nat.le_of_ble_eq_true rfl), (Nat.le_of_ble_eq_true rfl)⟩) hZ hK hP hD hS hA ex rfl rfl hl.1 rfl (Nat.le_of_ble_eq_true rfl) dL_law_1251 ⟨Nat.le_refl _, Nat.le_refl _⟩ (fun H locs hP hD hS => ?_)
  refine lv_aload_n hx hb dL_law_1254 rfl (lv_at hl 2 rfl) ?_
  refine lv_aload_n hx hb dL_law_1255 rfl (lv_at hl 0 rfl) ?_
  refine lv_iload_n hx hb dL_law_1256 rfl (lv_at hl 3 rfl) ?_
  refine lv_iconst (v := 1) hx hb dL_law_1257 (by decide) ?_
  refine lv_iadd hx hb dL_law_1258 ?_
  refine va_sld hx hb hX hbl hbA hS hi1 dL_law_1259 ?_
  refine lcI (As := [.int (xs (nI i + 1).toNatClampNeg)]) (rest := [.int r]) ⟨hx, hb, hml, hown, hts⟩ mM (cwV 1 hts (gLV wm_843 wm_844 wm_845 wm_5 wm_846) rfl rfl rfl qd_X11_count ⟨(Nat.le_of_ble_eq_true rfl), (Nat.le_of_ble_eq_true rfl)⟩) hZ hK hP hD hS hA em rfl rfl hl.1 rfl (Nat.le_of_ble_eq_true rfl) dL_law_1260 ⟨Nat.le_refl _, Nat.le_refl _⟩ (fun H locs hP hD hS => ?_)
  refine lv_icmp_eq (tgt := 1282) hx hb dL_law_1263 (by decide) (fun _ => ?_) (fun c9 => absurd rfl c9)
  exact nx WX' WM' H locs ls hR' hP hD hS hl
set_option maxHeartbeats 4000000 in
set_option maxRecDepth 100000 in
theorem lk_digest {p : Program} {l : Launch} {e : Env} {s : State} {m : MethodId} {below : List Frame} {meth : Method} {c : Code} {b L : Nat} {xs : Nat → Int32} (C0 : lw_At p s m meth c b L xs) {D : va_G} {k : Nat → ClassId} {ax am : Nat → Nat} {zb zv i : Nat} (hi : i + 6 ≤ L) (hL : L ≤ 3072) (hZ : zS zb zv (fun q : Nat => s.heap.size ≤ q) s s.heap) (hK : va_K D vwCl (xTys k) s) {WX WM : va_W} (hR : RW k ax am WX WM) {H : Heap} {locs : List Loc} (hP : va_P D vwCl (WX ++ WM) H) (hD : va_D (fun q : Nat => s.heap.size ≤ q) (WX ++ WM)) (hS : va_S (fun q : Nat => s.heap.size ≤ q) s.heap H locs) {ls : Array Slot} (hl : lv_has ls 4 [(0, .ref b), (1, .ref (ax 0)), (2, .ref (am 0)), (3, .int (nI i))]) (nx : lwNext p l e s m below meth c b D k ax am i) : W p l e room_1 s m #[Value.ref b] below meth c H locs 600000 7302250 (lw_Z below #[Value.ref b] s) (F0 m 1268 ls []) := by
  obtain ⟨hx, hb, hr, hml, hown, hts, hX, hbl, hlocks, hgv⟩ := C0
  have hb : c.code = cL_law := hb
  have hown : s.vm.findClass RL = some m.cls := hown
  have hA : ∀ q : Nat, s.heap.size ≤ q → (fun q : Nat => s.heap.size ≤ q) q := fun _ h => h
  have hbA : ¬ (fun q : Nat => s.heap.size ≤ q) b := Nat.not_le.mpr hbl
  obtain ⟨r, WX', WM', mX, mM, hR'⟩ := s_digest (l := l) (D := D) (N := 40000) (Nat.le_refl _) hR
  obtain ⟨fx, ex⟩ := RW_x hR
  obtain ⟨fm, em⟩ := RW_m hR
  refine lv_aload_n hx hb dL_law_1268 rfl (lv_at hl 1 rfl) ?_
  refine lcL (As := []) (rest := []) ⟨hx, hb, hml, hown, hts⟩ mX (cwV 0 hts (gLV wm_851 wm_852 wm_853 wm_2 wm_854) rfl rfl rfl qd_X10_digest ⟨(Nat.le_of_ble_eq_true rfl), (Nat.le_of_ble_eq_true rfl)⟩) hK hP hD hS hA ex rfl rfl hl.1 rfl (Nat.le_of_ble_eq_true rfl) dL_law_1269 ⟨Nat.le_refl _, Nat.le_refl _⟩ (fun H locs hP hD hS => ?_)
  refine lv_aload_n hx hb dL_law_1272 rfl (lv_at hl 2 rfl) ?_
  refine lcL (As := []) (rest := [.long r]) ⟨hx, hb, hml, hown, hts⟩ mM (cwV 0 hts (gLV wm_863 wm_864 wm_865 wm_5 wm_866) rfl rfl rfl qd_X11_digest ⟨(Nat.le_of_ble_eq_true rfl), (Nat.le_of_ble_eq_true rfl)⟩) hK hP hD hS hA em rfl rfl hl.1 rfl (Nat.le_of_ble_eq_true rfl) dL_law_1273 ⟨Nat.le_refl _, Nat.le_refl _⟩ (fun H locs hP hD hS => ?_)
  refine lw_lc hx hb dL_law_1276 ?_
  refine lv_if_eq (tgt := 1282) hx hb dL_law_1277 (by decide) (fun _ => ?_) (fun c9 => absurd rfl c9)
  exact nx WX' WM' H locs ls hR' hP hD hS hl
