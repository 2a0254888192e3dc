/-! the law's loop -/
set_option maxHeartbeats 4000000 in
set_option maxRecDepth 100000 in
theorem law_loop {p : Program} {l : Launch} {e : Env} {s : State} {m : MethodId} {below : List Frame} {meth : Method} {c : Code} {b L : Nat} {xs : Nat → Int32} (hL : L ≤ 3072) (C0 : lw_At p s m meth c b L xs) {D : va_G} {k : Nat → ClassId} {ax am : Nat → Nat} {zb zv : Nat} (hZ : zS zb zv (fun q : Nat => s.heap.size ≤ q) s s.heap) (hK : va_K D vwCl (xTys k) s) :
    ∀ (n i : Nat) (WX WM : va_W) (H : Heap) (locs : List Loc) (ls : Array Slot), i ≤ L → L + 1 ≤ i + 6 * n → RW k ax am WX WM → va_P D vwCl (WX ++ WM) H → va_D (fun q : Nat => s.heap.size ≤ q) (WX ++ WM) → va_S (fun q : Nat => s.heap.size ≤ q) s.heap H locs → lv_has ls 4 [(0, .ref b), (1, .ref (ax 0)), (2, .ref (am 0)), (3, .int (nI i))] → W p l e room_1 s m #[Value.ref b] below meth c H locs 600000 7302250 (lw_Z below #[Value.ref b] s) (F0 m 18 ls []) := by
  obtain ⟨hx, hb, hr, hml, hown, hts, hX, hbl, hlocks, hgv⟩ := id C0
  have hb : c.code = cL_law := hb
  have hA : ∀ q : Nat, s.heap.size ≤ q → (fun q : Nat => s.heap.size ≤ q) q := fun _ h => h
  have hbA : ¬ (fun q : Nat => s.heap.size ≤ q) b := Nat.not_le.mpr hbl
  intro n
  induction n with
  | zero =>
    intro i WX WM H locs ls h1 h2
    exact absurd h2 (by omega)
  | succ n ih =>
    intro i WX WM H locs ls hiL hn hR hP hD hS hl
    refine lv_iload_n hx hb dL_law_18 rfl (lv_at hl 3 rfl) ?_
    refine lv_aload_n hx hb dL_law_19 rfl (lv_at hl 0 rfl) ?_
    refine va_slen hx hb hX hbl hbA hS dL_law_20 ?_
    refine lv_bipush (v := 6) hx hb dL_law_21 (by decide) ?_
    refine lv_isub hx hb dL_law_23 ?_
    have hsub : (Int32.ofNat L - 6).toInt = (L : Int) - 6 := pk_sub_toInt (a := L) (b := 6) (by omega) (by omega)
    have hii : (nI i).toInt = (i : Int) := nI_toInt (by omega)
    refine lv_icmp_gt (tgt := 1288) hx hb dL_law_24 (by decide) (fun c1 => ?_) (fun c1 => ?_)
    · refine lv_iconst (v := 1) hx hb dL_law_1288 (by decide) ?_
      refine va_forget (fun q hq => hS.2.2 q hq) ?_
      exact lw_ret hx hb hr hlocks dL_law_1289
    · have hi : i + 6 ≤ L := by
        rw [fa_lt, hsub, hii] at c1
        omega
      have hi0 : vp_in (nI i) L := vp_in_nI (by omega) (by omega)
      refine lv_aload_n hx hb dL_law_27 rfl (lv_at hl 0 rfl) ?_
      refine lv_iload_n hx hb dL_law_28 rfl (lv_at hl 3 rfl) ?_
      refine va_sld hx hb hX hbl hbA hS hi0 dL_law_29 ?_
      refine lv_bipush (v := 63) hx hb dL_law_30 (by decide) ?_
      refine lv_iand hx hb dL_law_32 ?_
      obtain ⟨j, hj, ej⟩ := pk_andE (xs (nI i).toNatClampNeg) (m := 63) 6 (by decide)
      rw [ej]
      have nx : lwNext p l e s m below meth c b D k ax am i := by
        intro WX WM H locs ls hR hP hD hS hl
        refine lv_iinc (v := nI (i + 6)) (lv' := [(3, .int (nI (i + 6))), (0, .ref b), (1, .ref (ax 0)), (2, .ref (am 0))]) hx hb dL_law_1282 hl (k := 3) rfl (by rw [show Int32.ofInt 6 = nI 6 from by decide, nI_add]) (by decide) rfl (fun ls hl => ?_)
        refine lv_goto (tgt := 18) hx hb dL_law_1285 (by decide) ?_
        exact ih (i + 6) WX WM H locs ls (by omega) (by omega) hR hP hD hS (lv_sub hl [1, 2, 3, 0] rfl)
      by_cases h33 : j < 33
      · rcases (show j = 0 ∨ j = 1 ∨ j = 2 ∨ j = 3 ∨ j = 4 ∨ j = 5 ∨ j = 6 ∨ j = 7 ∨ j = 8 ∨ j = 9 ∨ j = 10 ∨ j = 11 ∨ j = 12 ∨ j = 13 ∨ j = 14 ∨ j = 15 ∨ j = 16 ∨ j = 17 ∨ j = 18 ∨ j = 19 ∨ j = 20 ∨ j = 21 ∨ j = 22 ∨ j = 23 ∨ j = 24 ∨ j = 25 ∨ j = 26 ∨ j = 27 ∨ j = 28 ∨ j = 29 ∨ j = 30 ∨ j = 31 ∨ j = 32 by omega) with rfl | rfl | rfl | rfl | rfl | rfl | rfl | rfl | rfl | rfl | rfl | rfl | rfl | rfl | rfl | rfl | rfl | rfl | rfl | rfl | rfl | rfl | rfl | rfl | rfl | rfl | rfl | rfl | rfl | rfl | rfl | rfl | rfl
        · refine lv_tableIn (off := 147) (tgt := 180) hx hb dL_law_33 (by decide) (by decide) (by decide) (by decide) ?_
          exact lk_sign C0 hi hL hZ hK hR hP hD hS hl nx
        · refine lv_tableIn (off := 180) (tgt := 213) hx hb dL_law_33 (by decide) (by decide) (by decide) (by decide) ?_
          exact lk_read C0 hi hL hZ hK hR hP hD hS hl nx
        · refine lv_tableIn (off := 213) (tgt := 246) hx hb dL_law_33 (by decide) (by decide) (by decide) (by decide) ?_
          exact lk_clear C0 hi hL hZ hK hR hP hD hS hl nx
        · refine lv_tableIn (off := 236) (tgt := 269) hx hb dL_law_33 (by decide) (by decide) (by decide) (by decide) ?_
          exact lk_at C0 hi hL hZ hK hR hP hD hS hl nx
        · refine lv_tableIn (off := 269) (tgt := 302) hx hb dL_law_33 (by decide) (by decide) (by decide) (by decide) ?_
          exact lk_set C0 hi hL hZ hK hR hP hD hS hl nx
        · refine lv_tableIn (off := 302) (tgt := 335) hx hb dL_law_33 (by decide) (by decide) (by decide) (by decide) ?_
          exact lk_shows C0 hi hL hZ hK hR hP hD hS hl nx
        · refine lv_tableIn (off := 335) (tgt := 368) hx hb dL_law_33 (by decide) (by decide) (by decide) (by decide) ?_
          exact lk_type C0 hi hL hZ hK hR hP hD hS hl nx
        · refine lv_tableIn (off := 358) (tgt := 391) hx hb dL_law_33 (by decide) (by decide) (by decide) (by decide) ?_
          exact lk_wipe C0 hi hL hZ hK hR hP hD hS hl nx
        · refine lv_tableIn (off := 371) (tgt := 404) hx hb dL_law_33 (by decide) (by decide) (by decide) (by decide) ?_
          exact lk_fault C0 hi hL hZ hK hR hP hD hS hl nx
        · refine lv_tableIn (off := 384) (tgt := 417) hx hb dL_law_33 (by decide) (by decide) (by decide) (by decide) ?_
          exact lk_holds C0 hi hL hZ hK hR hP hD hS hl nx
        · refine lv_tableIn (off := 407) (tgt := 440) hx hb dL_law_33 (by decide) (by decide) (by decide) (by decide) ?_
          exact lk_shown C0 hi hL hZ hK hR hP hD hS hl nx
        · refine lv_tableIn (off := 440) (tgt := 473) hx hb dL_law_33 (by decide) (by decide) (by decide) (by decide) ?_
          exact lk_nth C0 hi hL hZ hK hR hP hD hS hl nx
        · refine lv_tableIn (off := 473) (tgt := 506) hx hb dL_law_33 (by decide) (by decide) (by decide) (by decide) ?_
          exact lk_share C0 hi hL hZ hK hR hP hD hS hl nx
        · refine lv_tableIn (off := 507) (tgt := 540) hx hb dL_law_33 (by decide) (by decide) (by decide) (by decide) ?_
          exact lk_fills C0 hi hL hZ hK hR hP hD hS hl nx
        · refine lv_tableIn (off := 540) (tgt := 573) hx hb dL_law_33 (by decide) (by decide) (by decide) (by decide) ?_
          exact lk_filled C0 hi hL hZ hK hR hP hD hS hl nx
        · refine lv_tableIn (off := 574) (tgt := 607) hx hb dL_law_33 (by decide) (by decide) (by decide) (by decide) ?_
          exact lk_sure C0 hi hL hZ hK hR hP hD hS hl nx
        · refine lv_tableIn (off := 607) (tgt := 640) hx hb dL_law_33 (by decide) (by decide) (by decide) (by decide) ?_
          exact lk_dealt C0 hi hL hZ hK hR hP hD hS hl nx
        · refine lv_tableIn (off := 666) (tgt := 699) hx hb dL_law_33 (by decide) (by decide) (by decide) (by decide) ?_
          exact lk_strangest C0 hi hL hZ hK hR hP hD hS hl nx
        · refine lv_tableIn (off := 689) (tgt := 722) hx hb dL_law_33 (by decide) (by decide) (by decide) (by decide) ?_
          exact lk_hot C0 hi hL hZ hK hR hP hD hS hl nx
        · refine lv_tableIn (off := 733) (tgt := 766) hx hb dL_law_33 (by decide) (by decide) (by decide) (by decide) ?_
          exact lk_already C0 hi hL hZ hK hR hP hD hS hl nx
        · refine lv_tableIn (off := 777) (tgt := 810) hx hb dL_law_33 (by decide) (by decide) (by decide) (by decide) ?_
          exact lk_waits C0 hi hL hZ hK hR hP hD hS hl nx
        · refine lv_tableIn (off := 801) (tgt := 834) hx hb dL_law_33 (by decide) (by decide) (by decide) (by decide) ?_
          exact lk_first C0 hi hL hZ hK hR hP hD hS hl nx
        · refine lv_tableIn (off := 845) (tgt := 878) hx hb dL_law_33 (by decide) (by decide) (by decide) (by decide) ?_
          exact lk_agree C0 hi hL hZ hK hR hP hD hS hl nx
        · refine lv_tableIn (off := 888) (tgt := 921) hx hb dL_law_33 (by decide) (by decide) (by decide) (by decide) ?_
          exact lk_twice C0 hi hL hZ hK hR hP hD hS hl nx
        · refine lv_tableIn (off := 911) (tgt := 944) hx hb dL_law_33 (by decide) (by decide) (by decide) (by decide) ?_
          exact lk_next C0 hi hL hZ hK hR hP hD hS hl nx
        · refine lv_tableIn (off := 954) (tgt := 987) hx hb dL_law_33 (by decide) (by decide) (by decide) (by decide) ?_
          exact lk_sheet C0 hi hL hZ hK hR hP hD hS hl nx
        · refine lv_tableIn (off := 997) (tgt := 1030) hx hb dL_law_33 (by decide) (by decide) (by decide) (by decide) ?_
          exact lk_lose C0 hi hL hZ hK hR hP hD hS hl nx
        · refine lv_tableIn (off := 1020) (tgt := 1053) hx hb dL_law_33 (by decide) (by decide) (by decide) (by decide) ?_
          exact lk_put C0 hi hL hZ hK hR hP hD hS hl nx
        · refine lv_tableIn (off := 1073) (tgt := 1106) hx hb dL_law_33 (by decide) (by decide) (by decide) (by decide) ?_
          exact lk_get C0 hi hL hZ hK hR hP hD hS hl nx
        · refine lv_tableIn (off := 1116) (tgt := 1149) hx hb dL_law_33 (by decide) (by decide) (by decide) (by decide) ?_
          exact lk_copy C0 hi hL hZ hK hR hP hD hS hl nx
        · refine lv_tableIn (off := 1179) (tgt := 1212) hx hb dL_law_33 (by decide) (by decide) (by decide) (by decide) ?_
          exact lk_write C0 hi hL hZ hK hR hP hD hS hl nx
        · refine lv_tableIn (off := 1212) (tgt := 1245) hx hb dL_law_33 (by decide) (by decide) (by decide) (by decide) ?_
          exact lk_count C0 hi hL hZ hK hR hP hD hS hl nx
        · refine lv_tableIn (off := 1235) (tgt := 1268) hx hb dL_law_33 (by decide) (by decide) (by decide) (by decide) ?_
          exact lk_digest C0 hi hL hZ hK hR hP hD hS hl nx
      · refine lv_tableOut (tgt := 1282) hx hb dL_law_33 (Or.inr (by rw [nI_toInt (by omega)]; omega)) (by decide) ?_
        exact nx WX WM H locs ls hR hP hD hS hl
