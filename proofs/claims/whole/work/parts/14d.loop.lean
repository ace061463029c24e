/-! 14d.loop: the law's loop, laid by gen6.py -/
theorem lp_exit {L k : Nat} (hL : L ≤ 1536) (hk : k ≤ 1536) (h : ¬ Int32.ofNat L - 3 < nI (3 * k)) : 3 * k + 3 ≤ L := by
  have e1 : (Int32.ofNat L).toInt = L := nI_toInt (n := L) (by omega)
  have e3 : (3 : Int32).toInt = 3 := by decide
  rw [Int32.lt_iff_toInt_lt, Int32.toInt_sub, e1, e3, nI_toInt (by omega), Int.bmod_def] at h
  split at h <;> omega
set_option maxHeartbeats 4000000 in
theorem lw_loop {p : Program} {l : Launch} {e : Env} {s : State} {m : MethodId} {below : List Frame} {meth : Method} {c : Code} {b L : Nat} {xs : Nat → Int32} {D : va_G} {a : CAd} {o : OAd} {r : RAd} (F : LF p l s m meth c b L xs D a o r) (hL : L ≤ 1536) {Q : State → Prop}
    (hexit : ∀ (H : Heap) (locs : List Loc) (ls : Array Slot) (k : Nat), va_S (An0 s) s.heap H locs → k ≤ 512 → W p l e room_1 s m #[Value.ref b] below meth c H locs (9 + k) (1109 + 6 * k) Q (F0 m 439 ls [])) :
    ∀ (n k : Nat) (H : Heap) (locs : List Loc) (ls : Array Slot) (u : CSt) (f : Nat → Int64) (t g w : Int32), L ≤ 3 * k + 3 * n + 2 → 3 * k ≤ L + 2 → va_P D kl (cwo a o (u, f)) H → va_P D kl (mw r (ra u t g w)) H → va_S (An0 s) s.heap H locs → Iv u → lv_has ls 7 [(0, .ref b), (1, .ref a.1), (2, .ref r.1), (3, .ref o.1), (4, .int (nI (3 * k)))] →
      W p l e room_1 s m #[Value.ref b] below meth c H locs (9 + k) (1109 + 6 * k) Q (F0 m 23 ls []) := by
  intro n
  induction n with
  | zero =>
    intro k H locs ls u f t g w hn hk3 hP hQ hS hI hl
    obtain ⟨⟨hx, hb, hr, hml, hown, hts, hX, hbl, hlk⟩, -⟩ := F
    have hbA : ¬ An0 s b := fun z => absurd hbl (Nat.not_lt.mpr z)
    refine lv_iload hx hb d_lw_23 (lv_at hl 4 rfl) ?_
    refine lv_aload_n hx hb d_lw_25 rfl (lv_at hl 0 rfl) ?_
    refine va_slen hx hb hX hbl hbA hS d_lw_26 ?_
    refine lv_iconst (v := 3) hx hb d_lw_27 (by decide) ?_
    refine lv_isub hx hb d_lw_28 ?_
    refine lv_icmp_gt (tgt := 439) hx hb d_lw_29 (by decide) (fun h => ?_) (fun h => ?_)
    · exact hexit H locs ls k hS (by omega)
    · have h3 := lp_exit hL (by omega) h
      omega
  | succ n ih =>
    intro k H locs ls u f t g w hn hk3 hP hQ hS hI hl
    have F1 := F
    obtain ⟨⟨hx, hb, hr, hml, hown, hts, hX, hbl, hlk⟩, -⟩ := F1
    have hbA : ¬ An0 s b := fun z => absurd hbl (Nat.not_lt.mpr z)
    refine lv_iload hx hb d_lw_23 (lv_at hl 4 rfl) ?_
    refine lv_aload_n hx hb d_lw_25 rfl (lv_at hl 0 rfl) ?_
    refine va_slen hx hb hX hbl hbA hS d_lw_26 ?_
    refine lv_iconst (v := 3) hx hb d_lw_27 (by decide) ?_
    refine lv_isub hx hb d_lw_28 ?_
    refine lv_icmp_gt (tgt := 439) hx hb d_lw_29 (by decide) (fun h => ?_) (fun h => ?_)
    · exact hexit H locs ls k hS (by omega)
    have h3 := lp_exit hL (by omega) h
    have hin0 : vp_in (nI (3 * k)) L := nI_in (by omega) (by omega)
    have hin1 : vp_in (nI (3 * k) + 1) L := by rw [nI_1]; exact nI_in (by omega) (by omega)
    have hin2 : vp_in (nI (3 * k) + 2) L := by rw [show (2 : Int32) = nI 2 from rfl, nI_add]; exact nI_in (by omega) (by omega)
    have hf : 9 + k + 1 ≤ room_1.cells ∧ 1109 + 6 * k + 6 ≤ room_1.slots := by
      have e1 : room_1.cells = 1039 := rfl
      have e2 : room_1.slots = 9337 := rfl
      omega
    have back : ∀ (H1 : Heap) (locs1 : List Loc) (ls1 : Array Slot) (u' : CSt) (f' : Nat → Int64) (t' g' w' : Int32), va_P D kl (cwo a o (u', f')) H1 → va_P D kl (mw r (ra u' t' g' w')) H1 → va_S (An0 s) s.heap H1 locs1 → Iv u' → lv_has ls1 7 [(0, .ref b), (1, .ref a.1), (2, .ref r.1), (3, .ref o.1), (4, .int (nI (3 * k)))] → W p l e room_1 s m #[Value.ref b] below meth c H1 locs1 (9 + k + 1) (1109 + 6 * k + 6) Q (F0 m 433 ls1 []) := by
      intro H1 locs1 ls1 u' f' t' g' w' hP hQ hS hI hl
      refine lv_iinc (k := 4) (v := nI (3 * k) + 3) hx hb d_lw_433 hl rfl rfl (by decide) rfl (fun ls hl => ?_)
      refine lv_goto (tgt := 23) hx hb d_lw_436 (by decide) ?_
      have e3 : nI (3 * k) + 3 = nI (3 * (k + 1)) := by rw [show (3 : Int32) = nI 3 from rfl, nI_add]; exact congrArg nI (by omega)
      have hl : lv_has ls 7 [(4, .int (nI (3 * k) + 3)), (0, .ref b), (1, .ref a.1), (2, .ref r.1), (3, .ref o.1)] := hl
      rw [e3] at hl
      rw [show 9 + k + 1 = 9 + (k + 1) by omega, show 1109 + 6 * k + 6 = 1109 + 6 * (k + 1) by omega]
      exact ih (k + 1) H1 locs1 ls u' f' t' g' w' (by omega) (by omega) hP hQ hS hI (lv_sub hl [1, 2, 3, 4, 0] rfl)
    refine lv_aload_n hx hb d_lw_32 rfl (lv_at hl 0 rfl) ?_
    refine lv_iload hx hb d_lw_33 (lv_at hl 4 rfl) ?_
    refine va_sld hx hb hX hbl hbA hS hin0 d_lw_35 ?_
    refine lv_bipush (v := 7) hx hb d_lw_36 (by decide) ?_
    refine lv_iand hx hb d_lw_38 ?_
    obtain ⟨j, hj, ej⟩ := pk_andE (xs (nI (3 * k)).toNatClampNeg) (m := 7) 3 (by decide)
    rcases (show j = 0 ∨ j = 1 ∨ j = 2 ∨ j = 3 ∨ j = 4 ∨ j = 5 ∨ j = 6 ∨ j = 7 by omega) with rfl | rfl | rfl | rfl | rfl | rfl | rfl | rfl
    · refine lv_tableIn (off := 45) (tgt := 84) hx hb d_lw_39 (by rw [ej]; decide) (by rw [ej]; decide) (by rw [ej]; decide +kernel) (by decide) ?_
      exact lw_c0 F hP hQ hS hI hl ⟨hin1, hin2⟩ hf back
    · refine lv_tableIn (off := 56) (tgt := 95) hx hb d_lw_39 (by rw [ej]; decide) (by rw [ej]; decide) (by rw [ej]; decide +kernel) (by decide) ?_
      exact lw_c1 F hP hQ hS hI hl ⟨hin1, hin2⟩ hf back
    · refine lv_tableIn (off := 106) (tgt := 145) hx hb d_lw_39 (by rw [ej]; decide) (by rw [ej]; decide) (by rw [ej]; decide +kernel) (by decide) ?_
      exact lw_c2 F hP hQ hS hI hl ⟨hin1, hin2⟩ hf back
    · refine lv_tableIn (off := 162) (tgt := 201) hx hb d_lw_39 (by rw [ej]; decide) (by rw [ej]; decide) (by rw [ej]; decide +kernel) (by decide) ?_
      exact lw_c3 F hP hQ hS hI hl ⟨hin1, hin2⟩ hf back
    · refine lv_tableIn (off := 175) (tgt := 214) hx hb d_lw_39 (by rw [ej]; decide) (by rw [ej]; decide) (by rw [ej]; decide +kernel) (by decide) ?_
      exact lw_c4 F hP hQ hS hI hl ⟨hin1, hin2⟩ hf back
    · refine lv_tableIn (off := 211) (tgt := 250) hx hb d_lw_39 (by rw [ej]; decide) (by rw [ej]; decide) (by rw [ej]; decide +kernel) (by decide) ?_
      exact lw_c5 F hP hQ hS hI hl ⟨hin1, hin2⟩ hf back
    · refine lv_tableIn (off := 275) (tgt := 314) hx hb d_lw_39 (by rw [ej]; decide) (by rw [ej]; decide) (by rw [ej]; decide +kernel) (by decide) ?_
      exact lw_c6 F hP hQ hS hI hl ⟨hin1, hin2⟩ hf back
    · refine lv_tableIn (off := 338) (tgt := 377) hx hb d_lw_39 (by rw [ej]; decide) (by rw [ej]; decide) (by rw [ej]; decide +kernel) (by decide) ?_
      exact lw_c7 F hP hQ hS hI hl ⟨hin1, hin2⟩ hf back
