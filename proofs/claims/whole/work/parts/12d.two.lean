/-! 12d.two: instructions on two operands, laid by pure.py -/
theorem fin0 (B : CSt) (t g w x : Int32) {V : Int32} (hV : Wd V) : C_Mo_store (C_Mo_test (ra B t g w) V) x V 0 = ra (C_St_markParity (C_Me_store (C_St_tested B V).2 x V 2) V 2) t g w := by
  rw [e_test _ _ _ _ hV, e_store0, mp_2]
theorem fin1 (B : CSt) (t g w x : Int32) {V : Int32} (hV : Up V) : C_Mo_parity (C_Mo_store (C_Mo_test (ra B t g w) V) x V 1) V = ra (C_St_markParity (C_Me_store (C_St_tested B V).2 x V 1) V 1) t g w := by
  rw [e_test _ _ _ _ (up_w hV), e_store1 _ _ _ _ _ (up_w hV), e_parity _ _ _ _ hV]
theorem fis0 (B : CSt) (t g w x a b c : Int32) : C_Mo_store (C_Mo_test (C_Mo_sum (ra B t g w) a b c 0).2 (C_Mo_sum (ra B t g w) a b c 0).1) x (C_Mo_sum (ra B t g w) a b c 0).1 0 = ra (C_St_markParity (C_Me_store (C_St_sum B a b c).2 x (C_St_sum B a b c).1 2) (C_St_sum B a b c).1 2) t g w := by
  rw [e_sumT0, e_store0, mp_2, e_sum0, s_sum]
theorem fis1 (B : CSt) (t g w x a b c : Int32) (hV : Up ((a + b + c) &&& 65535)) : C_Mo_parity (C_Mo_store (C_Mo_test (C_Mo_sum (ra B t g w) a b c 0).2 (C_Mo_sum (ra B t g w) a b c 0).1) x (C_Mo_sum (ra B t g w) a b c 0).1 1) (C_Mo_sum (ra B t g w) a b c 0).1 = ra (C_St_markParity (C_Me_store (C_St_sum B a b c).2 x (C_St_sum B a b c).1 1) (C_St_sum B a b c).1 1) t g w := by
  rw [e_sumT0, e_sum0, s_sum]
  dsimp only
  rw [e_store1 _ _ _ _ _ (up_w hV), e_parity _ _ _ _ hV]
theorem two_4 (B : CSt) (t g w y : Int32) {s d x : Int32} (hs : Wd s) (hd : Wd d) (hq : x >>> ((12 : Int32) &&& 31) = 4) (hr : x >>> ((13 : Int32) &&& 31) = 2) : (let V := J_Mo_twoOperands_172 x 0 s (ra B t g w) d 65535; J_Mo_twoOperands_199 x 0 y V.1 V.2) = ra (if (x >>> ((13 : Int32) &&& 31)) = 4 then C_St_markParity (C_St_compare B s d) s 2 else C_St_markParity (C_Me_store (C_M_combined B (x >>> ((13 : Int32) &&& 31)) s d).2 y (C_M_combined B (x >>> ((13 : Int32) &&& 31)) s d).1 2) (C_M_combined B (x >>> ((13 : Int32) &&& 31)) s d).1 2) t g w := by
  unfold J_Mo_twoOperands_172 J_Mo_twoOperands_199 C_M_combined
  simp only [hq, hr, if_neg (show ¬ (6 : Int32) ≤ 4 by decide), if_neg (show ¬ (8 : Int32) ≤ 4 by decide), if_neg (show ¬ (10 : Int32) ≤ 4 by decide), if_neg (show ¬ (12 : Int32) ≤ 4 by decide), if_neg (show ¬ (14 : Int32) ≤ 4 by decide), if_neg (show ¬ (4 : Int32) = 8 by decide), if_neg (show ¬ (4 : Int32) = 9 by decide), if_neg (show ¬ (2 : Int32) = 4 by decide), if_pos (show (2 : Int32) = 2 by decide), if_neg (show ¬ (2 : Int32) = 3 by decide), if_neg (show ¬ (2 : Int32) = 5 by decide), if_neg (show ¬ (2 : Int32) = 6 by decide), if_pos (show (0 : Int32) = 0 by decide), if_neg (show ¬ (1 : Int32) = 0 by decide), if_pos (show (1 : Int32) = 1 by decide), if_neg (show ¬ (1 : Int32) = 2 by decide), if_neg (show ¬ (2 : Int32) = 1 by decide), if_true, if_false]
  rw [anW s hd]
  exact fin0 B t g w y (mk_and _ hd)
theorem two_5 (B : CSt) (t g w y : Int32) {s d x : Int32} (hs : Up s) (hd : Up d) (hq : x >>> ((12 : Int32) &&& 31) = 5) (hr : x >>> ((13 : Int32) &&& 31) = 2) : (let V := J_Mo_twoOperands_172 x 1 s (ra B t g w) d 65280; C_Mo_parity (J_Mo_twoOperands_199 x 1 y V.1 V.2) (J_Mo_twoOperands_217 x s V.1)) = ra (if (x >>> ((13 : Int32) &&& 31)) = 4 then C_St_markParity (C_St_compare B s d) s 1 else C_St_markParity (C_Me_store (C_M_combined B (x >>> ((13 : Int32) &&& 31)) s d).2 y (C_M_combined B (x >>> ((13 : Int32) &&& 31)) s d).1 1) (C_M_combined B (x >>> ((13 : Int32) &&& 31)) s d).1 1) t g w := by
  unfold J_Mo_twoOperands_172 J_Mo_twoOperands_199 C_M_combined J_Mo_twoOperands_217
  simp only [hq, hr, if_neg (show ¬ (6 : Int32) ≤ 5 by decide), if_neg (show ¬ (8 : Int32) ≤ 5 by decide), if_neg (show ¬ (10 : Int32) ≤ 5 by decide), if_neg (show ¬ (12 : Int32) ≤ 5 by decide), if_neg (show ¬ (14 : Int32) ≤ 5 by decide), if_neg (show ¬ (5 : Int32) = 8 by decide), if_neg (show ¬ (5 : Int32) = 9 by decide), if_neg (show ¬ (2 : Int32) = 4 by decide), if_pos (show (2 : Int32) = 2 by decide), if_neg (show ¬ (2 : Int32) = 3 by decide), if_neg (show ¬ (2 : Int32) = 5 by decide), if_neg (show ¬ (2 : Int32) = 6 by decide), if_pos (show (0 : Int32) = 0 by decide), if_neg (show ¬ (1 : Int32) = 0 by decide), if_pos (show (1 : Int32) = 1 by decide), if_neg (show ¬ (1 : Int32) = 2 by decide), if_neg (show ¬ (2 : Int32) = 1 by decide), if_true, if_false]
  rw [anU s hd]
  exact fin1 B t g w y (mk_and _ hd)
theorem two_6 (B : CSt) (t g w y : Int32) {s d x : Int32} (hs : Wd s) (hd : Wd d) (hq : x >>> ((12 : Int32) &&& 31) = 6) (hr : x >>> ((13 : Int32) &&& 31) = 3) : (let V := J_Mo_twoOperands_172 x 0 s (ra B t g w) d 65535; J_Mo_twoOperands_199 x 0 y V.1 V.2) = ra (if (x >>> ((13 : Int32) &&& 31)) = 4 then C_St_markParity (C_St_compare B s d) s 2 else C_St_markParity (C_Me_store (C_M_combined B (x >>> ((13 : Int32) &&& 31)) s d).2 y (C_M_combined B (x >>> ((13 : Int32) &&& 31)) s d).1 2) (C_M_combined B (x >>> ((13 : Int32) &&& 31)) s d).1 2) t g w := by
  unfold J_Mo_twoOperands_172 J_Mo_twoOperands_199 C_M_combined
  simp only [hq, hr, if_pos (show (6 : Int32) ≤ 6 by decide), if_neg (show ¬ (8 : Int32) ≤ 6 by decide), if_neg (show ¬ (10 : Int32) ≤ 6 by decide), if_neg (show ¬ (12 : Int32) ≤ 6 by decide), if_neg (show ¬ (14 : Int32) ≤ 6 by decide), if_neg (show ¬ (6 : Int32) = 8 by decide), if_neg (show ¬ (6 : Int32) = 9 by decide), if_neg (show ¬ (3 : Int32) = 4 by decide), if_neg (show ¬ (3 : Int32) = 2 by decide), if_pos (show (3 : Int32) = 3 by decide), if_neg (show ¬ (3 : Int32) = 5 by decide), if_neg (show ¬ (3 : Int32) = 6 by decide), if_pos (show (0 : Int32) = 0 by decide), if_neg (show ¬ (1 : Int32) = 0 by decide), if_pos (show (1 : Int32) = 1 by decide), if_pos (show (2 : Int32) = 2 by decide), if_neg (show ¬ (1 : Int32) = 2 by decide), if_neg (show ¬ (2 : Int32) = 1 by decide), if_true, if_false]
  rw [nwEq hs]
  exact fis0 B t g w y _ _ _
theorem two_7 (B : CSt) (t g w y : Int32) {s d x : Int32} (hs : Up s) (hd : Up d) (hq : x >>> ((12 : Int32) &&& 31) = 7) (hr : x >>> ((13 : Int32) &&& 31) = 3) : (let V := J_Mo_twoOperands_172 x 1 s (ra B t g w) d 65280; C_Mo_parity (J_Mo_twoOperands_199 x 1 y V.1 V.2) (J_Mo_twoOperands_217 x s V.1)) = ra (if (x >>> ((13 : Int32) &&& 31)) = 4 then C_St_markParity (C_St_compare B s d) s 1 else C_St_markParity (C_Me_store (C_M_combined B (x >>> ((13 : Int32) &&& 31)) s d).2 y (C_M_combined B (x >>> ((13 : Int32) &&& 31)) s d).1 1) (C_M_combined B (x >>> ((13 : Int32) &&& 31)) s d).1 1) t g w := by
  unfold J_Mo_twoOperands_172 J_Mo_twoOperands_199 C_M_combined J_Mo_twoOperands_217
  simp only [hq, hr, if_pos (show (6 : Int32) ≤ 7 by decide), if_neg (show ¬ (8 : Int32) ≤ 7 by decide), if_neg (show ¬ (10 : Int32) ≤ 7 by decide), if_neg (show ¬ (12 : Int32) ≤ 7 by decide), if_neg (show ¬ (14 : Int32) ≤ 7 by decide), if_neg (show ¬ (7 : Int32) = 8 by decide), if_neg (show ¬ (7 : Int32) = 9 by decide), if_neg (show ¬ (3 : Int32) = 4 by decide), if_neg (show ¬ (3 : Int32) = 2 by decide), if_pos (show (3 : Int32) = 3 by decide), if_neg (show ¬ (3 : Int32) = 5 by decide), if_neg (show ¬ (3 : Int32) = 6 by decide), if_pos (show (0 : Int32) = 0 by decide), if_neg (show ¬ (1 : Int32) = 0 by decide), if_pos (show (1 : Int32) = 1 by decide), if_pos (show (2 : Int32) = 2 by decide), if_neg (show ¬ (1 : Int32) = 2 by decide), if_neg (show ¬ (2 : Int32) = 1 by decide), if_true, if_false]
  rw [e_sum1s _ _ _ _ _ hs]
  exact fis1 B t g w y _ _ _ (up_sub hd hs)
theorem two_8 (B : CSt) (t g w y : Int32) {s d x : Int32} (hs : Wd s) (hd : Wd d) (hq : x >>> ((12 : Int32) &&& 31) = 8) (hr : x >>> ((13 : Int32) &&& 31) = 4) : (let V := J_Mo_twoOperands_172 x 0 s (ra B t g w) d 65535; J_Mo_twoOperands_199 x 0 y V.1 V.2) = ra (if (x >>> ((13 : Int32) &&& 31)) = 4 then C_St_markParity (C_St_compare B s d) s 2 else C_St_markParity (C_Me_store (C_M_combined B (x >>> ((13 : Int32) &&& 31)) s d).2 y (C_M_combined B (x >>> ((13 : Int32) &&& 31)) s d).1 2) (C_M_combined B (x >>> ((13 : Int32) &&& 31)) s d).1 2) t g w := by
  unfold J_Mo_twoOperands_172 J_Mo_twoOperands_199 C_M_combined
  simp only [hq, hr, if_pos (show (6 : Int32) ≤ 8 by decide), if_pos (show (8 : Int32) ≤ 8 by decide), if_neg (show ¬ (10 : Int32) ≤ 8 by decide), if_neg (show ¬ (12 : Int32) ≤ 8 by decide), if_neg (show ¬ (14 : Int32) ≤ 8 by decide), if_pos (show (8 : Int32) = 8 by decide), if_neg (show ¬ (8 : Int32) = 9 by decide), if_pos (show (4 : Int32) = 4 by decide), if_neg (show ¬ (4 : Int32) = 2 by decide), if_neg (show ¬ (4 : Int32) = 3 by decide), if_neg (show ¬ (4 : Int32) = 5 by decide), if_neg (show ¬ (4 : Int32) = 6 by decide), if_pos (show (0 : Int32) = 0 by decide), if_neg (show ¬ (1 : Int32) = 0 by decide), if_pos (show (1 : Int32) = 1 by decide), if_pos (show (2 : Int32) = 2 by decide), if_neg (show ¬ (1 : Int32) = 2 by decide), if_neg (show ¬ (2 : Int32) = 1 by decide), if_true, if_false]
  rw [mp_2]
  exact e_compare B t g w hs hd
theorem two_9 (B : CSt) (t g w y : Int32) {s d x : Int32} (hs : Up s) (hd : Up d) (hq : x >>> ((12 : Int32) &&& 31) = 9) (hr : x >>> ((13 : Int32) &&& 31) = 4) : (let V := J_Mo_twoOperands_172 x 1 s (ra B t g w) d 65280; C_Mo_parity (J_Mo_twoOperands_199 x 1 y V.1 V.2) (J_Mo_twoOperands_217 x s V.1)) = ra (if (x >>> ((13 : Int32) &&& 31)) = 4 then C_St_markParity (C_St_compare B s d) s 1 else C_St_markParity (C_Me_store (C_M_combined B (x >>> ((13 : Int32) &&& 31)) s d).2 y (C_M_combined B (x >>> ((13 : Int32) &&& 31)) s d).1 1) (C_M_combined B (x >>> ((13 : Int32) &&& 31)) s d).1 1) t g w := by
  unfold J_Mo_twoOperands_172 J_Mo_twoOperands_199 C_M_combined J_Mo_twoOperands_217
  simp only [hq, hr, if_pos (show (6 : Int32) ≤ 9 by decide), if_pos (show (8 : Int32) ≤ 9 by decide), if_neg (show ¬ (10 : Int32) ≤ 9 by decide), if_neg (show ¬ (12 : Int32) ≤ 9 by decide), if_neg (show ¬ (14 : Int32) ≤ 9 by decide), if_neg (show ¬ (9 : Int32) = 8 by decide), if_pos (show (9 : Int32) = 9 by decide), if_pos (show (4 : Int32) = 4 by decide), if_neg (show ¬ (4 : Int32) = 2 by decide), if_neg (show ¬ (4 : Int32) = 3 by decide), if_neg (show ¬ (4 : Int32) = 5 by decide), if_neg (show ¬ (4 : Int32) = 6 by decide), if_pos (show (0 : Int32) = 0 by decide), if_neg (show ¬ (1 : Int32) = 0 by decide), if_pos (show (1 : Int32) = 1 by decide), if_pos (show (2 : Int32) = 2 by decide), if_neg (show ¬ (1 : Int32) = 2 by decide), if_neg (show ¬ (2 : Int32) = 1 by decide), if_true, if_false]
  rw [e_compare _ _ _ _ (up_w hs) (up_w hd)]
  exact e_parity _ t g w hs
theorem two_10 (B : CSt) (t g w y : Int32) {s d x : Int32} (hs : Wd s) (hd : Wd d) (hq : x >>> ((12 : Int32) &&& 31) = 10) (hr : x >>> ((13 : Int32) &&& 31) = 5) : (let V := J_Mo_twoOperands_172 x 0 s (ra B t g w) d 65535; J_Mo_twoOperands_199 x 0 y V.1 V.2) = ra (if (x >>> ((13 : Int32) &&& 31)) = 4 then C_St_markParity (C_St_compare B s d) s 2 else C_St_markParity (C_Me_store (C_M_combined B (x >>> ((13 : Int32) &&& 31)) s d).2 y (C_M_combined B (x >>> ((13 : Int32) &&& 31)) s d).1 2) (C_M_combined B (x >>> ((13 : Int32) &&& 31)) s d).1 2) t g w := by
  unfold J_Mo_twoOperands_172 J_Mo_twoOperands_199 C_M_combined
  simp only [hq, hr, if_pos (show (6 : Int32) ≤ 10 by decide), if_pos (show (8 : Int32) ≤ 10 by decide), if_pos (show (10 : Int32) ≤ 10 by decide), if_neg (show ¬ (12 : Int32) ≤ 10 by decide), if_neg (show ¬ (14 : Int32) ≤ 10 by decide), if_neg (show ¬ (10 : Int32) = 8 by decide), if_neg (show ¬ (10 : Int32) = 9 by decide), if_neg (show ¬ (5 : Int32) = 4 by decide), if_neg (show ¬ (5 : Int32) = 2 by decide), if_neg (show ¬ (5 : Int32) = 3 by decide), if_pos (show (5 : Int32) = 5 by decide), if_neg (show ¬ (5 : Int32) = 6 by decide), if_pos (show (0 : Int32) = 0 by decide), if_neg (show ¬ (1 : Int32) = 0 by decide), if_pos (show (1 : Int32) = 1 by decide), if_pos (show (2 : Int32) = 2 by decide), if_neg (show ¬ (1 : Int32) = 2 by decide), if_neg (show ¬ (2 : Int32) = 1 by decide), if_true, if_false]
  exact fis0 B t g w y _ _ _
theorem two_11 (B : CSt) (t g w y : Int32) {s d x : Int32} (hs : Up s) (hd : Up d) (hq : x >>> ((12 : Int32) &&& 31) = 11) (hr : x >>> ((13 : Int32) &&& 31) = 5) : (let V := J_Mo_twoOperands_172 x 1 s (ra B t g w) d 65280; C_Mo_parity (J_Mo_twoOperands_199 x 1 y V.1 V.2) (J_Mo_twoOperands_217 x s V.1)) = ra (if (x >>> ((13 : Int32) &&& 31)) = 4 then C_St_markParity (C_St_compare B s d) s 1 else C_St_markParity (C_Me_store (C_M_combined B (x >>> ((13 : Int32) &&& 31)) s d).2 y (C_M_combined B (x >>> ((13 : Int32) &&& 31)) s d).1 1) (C_M_combined B (x >>> ((13 : Int32) &&& 31)) s d).1 1) t g w := by
  unfold J_Mo_twoOperands_172 J_Mo_twoOperands_199 C_M_combined J_Mo_twoOperands_217
  simp only [hq, hr, if_pos (show (6 : Int32) ≤ 11 by decide), if_pos (show (8 : Int32) ≤ 11 by decide), if_pos (show (10 : Int32) ≤ 11 by decide), if_neg (show ¬ (12 : Int32) ≤ 11 by decide), if_neg (show ¬ (14 : Int32) ≤ 11 by decide), if_neg (show ¬ (11 : Int32) = 8 by decide), if_neg (show ¬ (11 : Int32) = 9 by decide), if_neg (show ¬ (5 : Int32) = 4 by decide), if_neg (show ¬ (5 : Int32) = 2 by decide), if_neg (show ¬ (5 : Int32) = 3 by decide), if_pos (show (5 : Int32) = 5 by decide), if_neg (show ¬ (5 : Int32) = 6 by decide), if_pos (show (0 : Int32) = 0 by decide), if_neg (show ¬ (1 : Int32) = 0 by decide), if_pos (show (1 : Int32) = 1 by decide), if_pos (show (2 : Int32) = 2 by decide), if_neg (show ¬ (1 : Int32) = 2 by decide), if_neg (show ¬ (2 : Int32) = 1 by decide), if_true, if_false]
  rw [e_sum1a]
  exact fis1 B t g w y _ _ _ (up_sum hd hs)
theorem two_12 (B : CSt) (t g w y : Int32) {s d x : Int32} (hs : Wd s) (hd : Wd d) (hq : x >>> ((12 : Int32) &&& 31) = 12) (hr : x >>> ((13 : Int32) &&& 31) = 6) : (let V := J_Mo_twoOperands_172 x 0 s (ra B t g w) d 65535; J_Mo_twoOperands_199 x 0 y V.1 V.2) = ra (if (x >>> ((13 : Int32) &&& 31)) = 4 then C_St_markParity (C_St_compare B s d) s 2 else C_St_markParity (C_Me_store (C_M_combined B (x >>> ((13 : Int32) &&& 31)) s d).2 y (C_M_combined B (x >>> ((13 : Int32) &&& 31)) s d).1 2) (C_M_combined B (x >>> ((13 : Int32) &&& 31)) s d).1 2) t g w := by
  unfold J_Mo_twoOperands_172 J_Mo_twoOperands_199 C_M_combined
  simp only [hq, hr, if_pos (show (6 : Int32) ≤ 12 by decide), if_pos (show (8 : Int32) ≤ 12 by decide), if_pos (show (10 : Int32) ≤ 12 by decide), if_pos (show (12 : Int32) ≤ 12 by decide), if_neg (show ¬ (14 : Int32) ≤ 12 by decide), if_neg (show ¬ (12 : Int32) = 8 by decide), if_neg (show ¬ (12 : Int32) = 9 by decide), if_neg (show ¬ (6 : Int32) = 4 by decide), if_neg (show ¬ (6 : Int32) = 2 by decide), if_neg (show ¬ (6 : Int32) = 3 by decide), if_neg (show ¬ (6 : Int32) = 5 by decide), if_pos (show (6 : Int32) = 6 by decide), if_pos (show (0 : Int32) = 0 by decide), if_neg (show ¬ (1 : Int32) = 0 by decide), if_pos (show (1 : Int32) = 1 by decide), if_pos (show (2 : Int32) = 2 by decide), if_neg (show ¬ (1 : Int32) = 2 by decide), if_neg (show ¬ (2 : Int32) = 1 by decide), if_true, if_false]
  exact fin0 B t g w y hs
theorem two_13 (B : CSt) (t g w y : Int32) {s d x : Int32} (hs : Up s) (hd : Up d) (hq : x >>> ((12 : Int32) &&& 31) = 13) (hr : x >>> ((13 : Int32) &&& 31) = 6) : (let V := J_Mo_twoOperands_172 x 1 s (ra B t g w) d 65280; C_Mo_parity (J_Mo_twoOperands_199 x 1 y V.1 V.2) (J_Mo_twoOperands_217 x s V.1)) = ra (if (x >>> ((13 : Int32) &&& 31)) = 4 then C_St_markParity (C_St_compare B s d) s 1 else C_St_markParity (C_Me_store (C_M_combined B (x >>> ((13 : Int32) &&& 31)) s d).2 y (C_M_combined B (x >>> ((13 : Int32) &&& 31)) s d).1 1) (C_M_combined B (x >>> ((13 : Int32) &&& 31)) s d).1 1) t g w := by
  unfold J_Mo_twoOperands_172 J_Mo_twoOperands_199 C_M_combined J_Mo_twoOperands_217
  simp only [hq, hr, if_pos (show (6 : Int32) ≤ 13 by decide), if_pos (show (8 : Int32) ≤ 13 by decide), if_pos (show (10 : Int32) ≤ 13 by decide), if_pos (show (12 : Int32) ≤ 13 by decide), if_neg (show ¬ (14 : Int32) ≤ 13 by decide), if_neg (show ¬ (13 : Int32) = 8 by decide), if_neg (show ¬ (13 : Int32) = 9 by decide), if_neg (show ¬ (6 : Int32) = 4 by decide), if_neg (show ¬ (6 : Int32) = 2 by decide), if_neg (show ¬ (6 : Int32) = 3 by decide), if_neg (show ¬ (6 : Int32) = 5 by decide), if_pos (show (6 : Int32) = 6 by decide), if_pos (show (0 : Int32) = 0 by decide), if_neg (show ¬ (1 : Int32) = 0 by decide), if_pos (show (1 : Int32) = 1 by decide), if_pos (show (2 : Int32) = 2 by decide), if_neg (show ¬ (1 : Int32) = 2 by decide), if_neg (show ¬ (2 : Int32) = 1 by decide), if_true, if_false]
  exact fin1 B t g w y hs
theorem two_14 (B : CSt) (t g w y : Int32) {s d x : Int32} (hs : Wd s) (hd : Wd d) (hq : x >>> ((12 : Int32) &&& 31) = 14) (hr : x >>> ((13 : Int32) &&& 31) = 7) : (let V := J_Mo_twoOperands_172 x 0 s (ra B t g w) d 65535; J_Mo_twoOperands_199 x 0 y V.1 V.2) = ra (if (x >>> ((13 : Int32) &&& 31)) = 4 then C_St_markParity (C_St_compare B s d) s 2 else C_St_markParity (C_Me_store (C_M_combined B (x >>> ((13 : Int32) &&& 31)) s d).2 y (C_M_combined B (x >>> ((13 : Int32) &&& 31)) s d).1 2) (C_M_combined B (x >>> ((13 : Int32) &&& 31)) s d).1 2) t g w := by
  unfold J_Mo_twoOperands_172 J_Mo_twoOperands_199 C_M_combined
  simp only [hq, hr, if_pos (show (6 : Int32) ≤ 14 by decide), if_pos (show (8 : Int32) ≤ 14 by decide), if_pos (show (10 : Int32) ≤ 14 by decide), if_pos (show (12 : Int32) ≤ 14 by decide), if_pos (show (14 : Int32) ≤ 14 by decide), if_neg (show ¬ (14 : Int32) = 8 by decide), if_neg (show ¬ (14 : Int32) = 9 by decide), if_neg (show ¬ (7 : Int32) = 4 by decide), if_neg (show ¬ (7 : Int32) = 2 by decide), if_neg (show ¬ (7 : Int32) = 3 by decide), if_neg (show ¬ (7 : Int32) = 5 by decide), if_neg (show ¬ (7 : Int32) = 6 by decide), if_pos (show (0 : Int32) = 0 by decide), if_neg (show ¬ (1 : Int32) = 0 by decide), if_pos (show (1 : Int32) = 1 by decide), if_pos (show (2 : Int32) = 2 by decide), if_neg (show ¬ (1 : Int32) = 2 by decide), if_neg (show ¬ (2 : Int32) = 1 by decide), if_true, if_false]
  exact fin0 B t g w y (mk_or hd hs)
theorem two_15 (B : CSt) (t g w y : Int32) {s d x : Int32} (hs : Up s) (hd : Up d) (hq : x >>> ((12 : Int32) &&& 31) = 15) (hr : x >>> ((13 : Int32) &&& 31) = 7) : (let V := J_Mo_twoOperands_172 x 1 s (ra B t g w) d 65280; C_Mo_parity (J_Mo_twoOperands_199 x 1 y V.1 V.2) (J_Mo_twoOperands_217 x s V.1)) = ra (if (x >>> ((13 : Int32) &&& 31)) = 4 then C_St_markParity (C_St_compare B s d) s 1 else C_St_markParity (C_Me_store (C_M_combined B (x >>> ((13 : Int32) &&& 31)) s d).2 y (C_M_combined B (x >>> ((13 : Int32) &&& 31)) s d).1 1) (C_M_combined B (x >>> ((13 : Int32) &&& 31)) s d).1 1) t g w := by
  unfold J_Mo_twoOperands_172 J_Mo_twoOperands_199 C_M_combined J_Mo_twoOperands_217
  simp only [hq, hr, if_pos (show (6 : Int32) ≤ 15 by decide), if_pos (show (8 : Int32) ≤ 15 by decide), if_pos (show (10 : Int32) ≤ 15 by decide), if_pos (show (12 : Int32) ≤ 15 by decide), if_pos (show (14 : Int32) ≤ 15 by decide), if_neg (show ¬ (15 : Int32) = 8 by decide), if_neg (show ¬ (15 : Int32) = 9 by decide), if_neg (show ¬ (7 : Int32) = 4 by decide), if_neg (show ¬ (7 : Int32) = 2 by decide), if_neg (show ¬ (7 : Int32) = 3 by decide), if_neg (show ¬ (7 : Int32) = 5 by decide), if_neg (show ¬ (7 : Int32) = 6 by decide), if_pos (show (0 : Int32) = 0 by decide), if_neg (show ¬ (1 : Int32) = 0 by decide), if_pos (show (1 : Int32) = 1 by decide), if_pos (show (2 : Int32) = 2 by decide), if_neg (show ¬ (1 : Int32) = 2 by decide), if_neg (show ¬ (2 : Int32) = 1 by decide), if_true, if_false]
  exact fin1 B t g w y (mk_or hd hs)
theorem e_two {u : CSt} (h : Iv u) (t g w : Int32) {n : Nat} (h1 : 16384 ≤ n) (h2 : n < 65536) : ∃ g' w', C_Mo_twoOperands (ra u t g w) (nI n) = ra (C_M_runOnTwoOperands u (nI n)).2 t g' w' := by
  have e12 : nI n >>> ((12 : Int32) &&& 31) = nI (n / 4096) := pk_shrN (by omega) _ 12 (by decide)
  have e13 : nI n >>> ((13 : Int32) &&& 31) = nI (n / 8192) := pk_shrN (by omega) _ 13 (by decide)
  have e46 : nI n &&& 4096 = nI (n / 4096 % 2 * 4096) := bit1 (by omega) 12 4096 (by decide) (by decide)
  have eb : nI (n / 4096) &&& 1 = nI (n / 4096 % 2) := pk_andN (by omega) 1 (by decide)
  have e8 : n / 8192 = n / 4096 / 2 := by omega
  have hq1 : 4 ≤ n / 4096 := by omega
  have hq2 : n / 4096 < 16 := by omega
  rw [e8] at e13
  generalize hx : nI n = x at *
  generalize n / 4096 = q at *
  let A := C_M_operandAddress u x (J_M_runOnTwoOperands_13 x)
  let B := C_M_operandAddress A.2 (x >>> ((6 : Int32) &&& 31)) (J_M_runOnTwoOperands_13 x)
  have iB : Iv B.2 := i_operand (i_operand h _ _) _ _
  refine ⟨gA A.2 (gA u g x) (x >>> ((6 : Int32) &&& 31)), wA A.2 (wA u w x) (x >>> ((6 : Int32) &&& 31)), ?_⟩
  rcases (show q % 2 = 0 ∨ q % 2 = 1 by omega) with hb | hb
  · have z13 : J_M_runOnTwoOperands_13 x = 2 := by unfold J_M_runOnTwoOperands_13; rw [e46, hb]; rfl
    have z17 : J_Mo_twoOperands_17 x = 0 := by unfold J_Mo_twoOperands_17; rw [e12, eb, hb]; rfl
    have iA : Iv (C_M_operandAddress u x 2).2 := i_operand h _ _
    have iB : Iv (C_M_operandAddress (C_M_operandAddress u x 2).2 (x >>> ((6 : Int32) &&& 31)) 2).2 := i_operand iA _ _
    have k : C_Mo_twoOperands (ra u t g w) x = (let V := J_Mo_twoOperands_172 x 0 (C_Me_load (C_M_operandAddress u x 2).2 (C_M_operandAddress u x 2).1 2) (ra (C_M_operandAddress (C_M_operandAddress u x 2).2 (x >>> ((6 : Int32) &&& 31)) 2).2 t (gA (C_M_operandAddress u x 2).2 (gA u g x) (x >>> ((6 : Int32) &&& 31))) (wA (C_M_operandAddress u x 2).2 (wA u w x) (x >>> ((6 : Int32) &&& 31)))) (C_Me_load (C_M_operandAddress (C_M_operandAddress u x 2).2 (x >>> ((6 : Int32) &&& 31)) 2).2 (C_M_operandAddress (C_M_operandAddress u x 2).2 (x >>> ((6 : Int32) &&& 31)) 2).1 2) 65535; J_Mo_twoOperands_199 x 0 (C_M_operandAddress (C_M_operandAddress u x 2).2 (x >>> ((6 : Int32) &&& 31)) 2).1 V.1 V.2) := by
      unfold C_Mo_twoOperands
      rw [z17]
      simp only [e_address, show J_Mo_address_122 0 = 2 from rfl, e_value0, if_pos (show (0 : Int32) = 0 from rfl), show J_Mo_twoOperands_70 0 = 65535 from rfl, if_true, if_false]
    rw [k]
    unfold C_M_runOnTwoOperands
    simp only [A, z13]
    have hs := w_load2 iA (C_M_operandAddress u x 2).1
    have hd := w_load2 iB (C_M_operandAddress (C_M_operandAddress u x 2).2 (x >>> ((6 : Int32) &&& 31)) 2).1
    have tl : ∀ (p : Prop) [Decidable p] (a b : CSt), (if p then ((0 : Int32), a) else (0, b)).2 = if p then a else b := fun p _ a b => by split <;> rfl
    rw [tl]
    rcases (show q = 4 ∨ q = 6 ∨ q = 8 ∨ q = 10 ∨ q = 12 ∨ q = 14 by omega) with rfl | rfl | rfl | rfl | rfl | rfl
    · exact two_4 _ _ _ _ _ hs hd e12 e13
    · exact two_6 _ _ _ _ _ hs hd e12 e13
    · exact two_8 _ _ _ _ _ hs hd e12 e13
    · exact two_10 _ _ _ _ _ hs hd e12 e13
    · exact two_12 _ _ _ _ _ hs hd e12 e13
    · exact two_14 _ _ _ _ _ hs hd e12 e13
  · have z13 : J_M_runOnTwoOperands_13 x = 1 := by unfold J_M_runOnTwoOperands_13; rw [e46, hb]; rfl
    have z17 : J_Mo_twoOperands_17 x = 1 := by unfold J_Mo_twoOperands_17; rw [e12, eb, hb]; rfl
    have k : C_Mo_twoOperands (ra u t g w) x = (let V := J_Mo_twoOperands_172 x 1 (C_Me_load (C_M_operandAddress u x 1).2 (C_M_operandAddress u x 1).1 1) (ra (C_M_operandAddress (C_M_operandAddress u x 1).2 (x >>> ((6 : Int32) &&& 31)) 1).2 t (gA (C_M_operandAddress u x 1).2 (gA u g x) (x >>> ((6 : Int32) &&& 31))) (wA (C_M_operandAddress u x 1).2 (wA u w x) (x >>> ((6 : Int32) &&& 31)))) (C_Me_load (C_M_operandAddress (C_M_operandAddress u x 1).2 (x >>> ((6 : Int32) &&& 31)) 1).2 (C_M_operandAddress (C_M_operandAddress u x 1).2 (x >>> ((6 : Int32) &&& 31)) 1).1 1) 65280; C_Mo_parity (J_Mo_twoOperands_199 x 1 (C_M_operandAddress (C_M_operandAddress u x 1).2 (x >>> ((6 : Int32) &&& 31)) 1).1 V.1 V.2) (J_Mo_twoOperands_217 x (C_Me_load (C_M_operandAddress u x 1).2 (C_M_operandAddress u x 1).1 1) V.1)) := by
      unfold C_Mo_twoOperands
      rw [z17]
      simp only [e_address, show J_Mo_address_122 1 = 1 from rfl, e_value1, if_neg (show ¬ (1 : Int32) = 0 by decide), show J_Mo_twoOperands_70 1 = 65280 from rfl, if_true, if_false]
    rw [k]
    unfold C_M_runOnTwoOperands
    simp only [A, z13]
    have hs := u_load1 (u := (C_M_operandAddress u x 1).2) (C_M_operandAddress u x 1).1
    have hd := u_load1 (u := (C_M_operandAddress (C_M_operandAddress u x 1).2 (x >>> ((6 : Int32) &&& 31)) 1).2) (C_M_operandAddress (C_M_operandAddress u x 1).2 (x >>> ((6 : Int32) &&& 31)) 1).1
    have tl : ∀ (p : Prop) [Decidable p] (a b : CSt), (if p then ((0 : Int32), a) else (0, b)).2 = if p then a else b := fun p _ a b => by split <;> rfl
    rw [tl]
    rcases (show q = 5 ∨ q = 7 ∨ q = 9 ∨ q = 11 ∨ q = 13 ∨ q = 15 by omega) with rfl | rfl | rfl | rfl | rfl | rfl
    · exact two_5 _ _ _ _ _ hs hd e12 e13
    · exact two_7 _ _ _ _ _ hs hd e12 e13
    · exact two_9 _ _ _ _ _ hs hd e12 e13
    · exact two_11 _ _ _ _ _ hs hd e12 e13
    · exact two_13 _ _ _ _ _ hs hd e12 e13
    · exact two_15 _ _ _ _ _ hs hd e12 e13
theorem two_0 (u : CSt) (x : Int32) : (C_M_runOnTwoOperands u x).1 = 0 := by
  unfold C_M_runOnTwoOperands
  dsimp only
  split <;> rfl
theorem i_parity {u : CSt} (h : Iv u) (v z : Int32) : Iv (C_St_markParity u v z) := by
  unfold C_St_markParity
  dsimp only
  split
  · exact i_mark h _ _
  · exact h
theorem i_combined {u : CSt} (h : Iv u) (a b c : Int32) : Iv (C_M_combined u a b c).2 := by
  unfold C_M_combined
  dsimp only
  (repeat' split) <;> exact h
theorem i_two {u : CSt} (h : Iv u) (x : Int32) : Iv (C_M_runOnTwoOperands u x).2 := by
  have h2 : Iv (C_M_operandAddress (C_M_operandAddress u x (J_M_runOnTwoOperands_13 x)).2 (x >>> ((6 : Int32) &&& 31)) (J_M_runOnTwoOperands_13 x)).2 := i_operand (i_operand h _ _) _ _
  unfold C_M_runOnTwoOperands
  dsimp only
  split
  · exact i_parity (i_compare h2 _ _) _ _
  · exact i_parity (i_store (i_combined h2 _ _ _) _ _ _) _ _
