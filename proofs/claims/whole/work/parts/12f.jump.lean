/-! 12f.jump: jumps, lines, shifts, laid by pure.py -/
theorem jt_0 (u : CSt) (t g w : Int32) : C_Mo_holds (ra u t g w) 0 = C_M_isJumpTaken u 16 := by
  unfold C_Mo_holds C_M_isJumpTaken
  simp only [e_has, if_pos (show (0 : Int32) = 0 by decide), if_neg (show ¬ (0 : Int32) = 1 by decide), if_neg (show ¬ (0 : Int32) = 2 by decide), if_neg (show ¬ (0 : Int32) = 3 by decide), if_neg (show ¬ (0 : Int32) = 4 by decide), if_neg (show ¬ (0 : Int32) = 5 by decide), if_neg (show ¬ (0 : Int32) = 6 by decide), if_neg (show ¬ (0 : Int32) = 7 by decide), if_neg (show ¬ (0 : Int32) = 8 by decide), if_neg (show ¬ (0 : Int32) = 9 by decide), if_neg (show ¬ (0 : Int32) = 10 by decide), if_neg (show ¬ (0 : Int32) = 11 by decide), if_pos (show (16 : Int32) = 16 by decide), if_neg (show ¬ (16 : Int32) = 17 by decide), if_neg (show ¬ (16 : Int32) = 18 by decide), if_neg (show ¬ (16 : Int32) = 19 by decide), if_neg (show ¬ (16 : Int32) = 20 by decide), if_neg (show ¬ (16 : Int32) = 21 by decide), if_neg (show ¬ (16 : Int32) = 22 by decide), if_neg (show ¬ (16 : Int32) = 23 by decide), if_neg (show ¬ (16 : Int32) = 24 by decide), if_neg (show ¬ (16 : Int32) = 25 by decide), if_neg (show ¬ (16 : Int32) = 26 by decide), if_neg (show ¬ (16 : Int32) = 27 by decide), if_true, if_false]
  all_goals rfl
theorem jt_1 (u : CSt) (t g w : Int32) : C_Mo_holds (ra u t g w) 1 = C_M_isJumpTaken u 17 := by
  unfold C_Mo_holds C_M_isJumpTaken
  simp only [e_has, if_neg (show ¬ (1 : Int32) = 0 by decide), if_pos (show (1 : Int32) = 1 by decide), if_neg (show ¬ (1 : Int32) = 2 by decide), if_neg (show ¬ (1 : Int32) = 3 by decide), if_neg (show ¬ (1 : Int32) = 4 by decide), if_neg (show ¬ (1 : Int32) = 5 by decide), if_neg (show ¬ (1 : Int32) = 6 by decide), if_neg (show ¬ (1 : Int32) = 7 by decide), if_neg (show ¬ (1 : Int32) = 8 by decide), if_neg (show ¬ (1 : Int32) = 9 by decide), if_neg (show ¬ (1 : Int32) = 10 by decide), if_neg (show ¬ (1 : Int32) = 11 by decide), if_neg (show ¬ (17 : Int32) = 16 by decide), if_pos (show (17 : Int32) = 17 by decide), if_neg (show ¬ (17 : Int32) = 18 by decide), if_neg (show ¬ (17 : Int32) = 19 by decide), if_neg (show ¬ (17 : Int32) = 20 by decide), if_neg (show ¬ (17 : Int32) = 21 by decide), if_neg (show ¬ (17 : Int32) = 22 by decide), if_neg (show ¬ (17 : Int32) = 23 by decide), if_neg (show ¬ (17 : Int32) = 24 by decide), if_neg (show ¬ (17 : Int32) = 25 by decide), if_neg (show ¬ (17 : Int32) = 26 by decide), if_neg (show ¬ (17 : Int32) = 27 by decide), if_true, if_false]
  all_goals rfl
theorem jt_2 (u : CSt) (t g w : Int32) : C_Mo_holds (ra u t g w) 2 = C_M_isJumpTaken u 18 := by
  unfold C_Mo_holds C_M_isJumpTaken
  simp only [e_has, if_neg (show ¬ (2 : Int32) = 0 by decide), if_neg (show ¬ (2 : Int32) = 1 by decide), if_pos (show (2 : Int32) = 2 by decide), if_neg (show ¬ (2 : Int32) = 3 by decide), if_neg (show ¬ (2 : Int32) = 4 by decide), if_neg (show ¬ (2 : Int32) = 5 by decide), if_neg (show ¬ (2 : Int32) = 6 by decide), if_neg (show ¬ (2 : Int32) = 7 by decide), if_neg (show ¬ (2 : Int32) = 8 by decide), if_neg (show ¬ (2 : Int32) = 9 by decide), if_neg (show ¬ (2 : Int32) = 10 by decide), if_neg (show ¬ (2 : Int32) = 11 by decide), if_neg (show ¬ (18 : Int32) = 16 by decide), if_neg (show ¬ (18 : Int32) = 17 by decide), if_pos (show (18 : Int32) = 18 by decide), if_neg (show ¬ (18 : Int32) = 19 by decide), if_neg (show ¬ (18 : Int32) = 20 by decide), if_neg (show ¬ (18 : Int32) = 21 by decide), if_neg (show ¬ (18 : Int32) = 22 by decide), if_neg (show ¬ (18 : Int32) = 23 by decide), if_neg (show ¬ (18 : Int32) = 24 by decide), if_neg (show ¬ (18 : Int32) = 25 by decide), if_neg (show ¬ (18 : Int32) = 26 by decide), if_neg (show ¬ (18 : Int32) = 27 by decide), if_true, if_false]
  all_goals rfl
theorem jt_3 (u : CSt) (t g w : Int32) : C_Mo_holds (ra u t g w) 3 = C_M_isJumpTaken u 19 := by
  unfold C_Mo_holds C_M_isJumpTaken
  simp only [e_has, if_neg (show ¬ (3 : Int32) = 0 by decide), if_neg (show ¬ (3 : Int32) = 1 by decide), if_neg (show ¬ (3 : Int32) = 2 by decide), if_pos (show (3 : Int32) = 3 by decide), if_neg (show ¬ (3 : Int32) = 4 by decide), if_neg (show ¬ (3 : Int32) = 5 by decide), if_neg (show ¬ (3 : Int32) = 6 by decide), if_neg (show ¬ (3 : Int32) = 7 by decide), if_neg (show ¬ (3 : Int32) = 8 by decide), if_neg (show ¬ (3 : Int32) = 9 by decide), if_neg (show ¬ (3 : Int32) = 10 by decide), if_neg (show ¬ (3 : Int32) = 11 by decide), if_neg (show ¬ (19 : Int32) = 16 by decide), if_neg (show ¬ (19 : Int32) = 17 by decide), if_neg (show ¬ (19 : Int32) = 18 by decide), if_pos (show (19 : Int32) = 19 by decide), if_neg (show ¬ (19 : Int32) = 20 by decide), if_neg (show ¬ (19 : Int32) = 21 by decide), if_neg (show ¬ (19 : Int32) = 22 by decide), if_neg (show ¬ (19 : Int32) = 23 by decide), if_neg (show ¬ (19 : Int32) = 24 by decide), if_neg (show ¬ (19 : Int32) = 25 by decide), if_neg (show ¬ (19 : Int32) = 26 by decide), if_neg (show ¬ (19 : Int32) = 27 by decide), if_true, if_false]
  all_goals rfl
theorem jt_4 (u : CSt) (t g w : Int32) : C_Mo_holds (ra u t g w) 4 = C_M_isJumpTaken u 20 := by
  unfold C_Mo_holds C_M_isJumpTaken
  simp only [e_has, if_neg (show ¬ (4 : Int32) = 0 by decide), if_neg (show ¬ (4 : Int32) = 1 by decide), if_neg (show ¬ (4 : Int32) = 2 by decide), if_neg (show ¬ (4 : Int32) = 3 by decide), if_pos (show (4 : Int32) = 4 by decide), if_neg (show ¬ (4 : Int32) = 5 by decide), if_neg (show ¬ (4 : Int32) = 6 by decide), if_neg (show ¬ (4 : Int32) = 7 by decide), if_neg (show ¬ (4 : Int32) = 8 by decide), if_neg (show ¬ (4 : Int32) = 9 by decide), if_neg (show ¬ (4 : Int32) = 10 by decide), if_neg (show ¬ (4 : Int32) = 11 by decide), if_neg (show ¬ (20 : Int32) = 16 by decide), if_neg (show ¬ (20 : Int32) = 17 by decide), if_neg (show ¬ (20 : Int32) = 18 by decide), if_neg (show ¬ (20 : Int32) = 19 by decide), if_pos (show (20 : Int32) = 20 by decide), if_neg (show ¬ (20 : Int32) = 21 by decide), if_neg (show ¬ (20 : Int32) = 22 by decide), if_neg (show ¬ (20 : Int32) = 23 by decide), if_neg (show ¬ (20 : Int32) = 24 by decide), if_neg (show ¬ (20 : Int32) = 25 by decide), if_neg (show ¬ (20 : Int32) = 26 by decide), if_neg (show ¬ (20 : Int32) = 27 by decide), if_true, if_false]
  all_goals rfl
theorem jt_5 (u : CSt) (t g w : Int32) : C_Mo_holds (ra u t g w) 5 = C_M_isJumpTaken u 21 := by
  unfold C_Mo_holds C_M_isJumpTaken
  simp only [e_has, if_neg (show ¬ (5 : Int32) = 0 by decide), if_neg (show ¬ (5 : Int32) = 1 by decide), if_neg (show ¬ (5 : Int32) = 2 by decide), if_neg (show ¬ (5 : Int32) = 3 by decide), if_neg (show ¬ (5 : Int32) = 4 by decide), if_pos (show (5 : Int32) = 5 by decide), if_neg (show ¬ (5 : Int32) = 6 by decide), if_neg (show ¬ (5 : Int32) = 7 by decide), if_neg (show ¬ (5 : Int32) = 8 by decide), if_neg (show ¬ (5 : Int32) = 9 by decide), if_neg (show ¬ (5 : Int32) = 10 by decide), if_neg (show ¬ (5 : Int32) = 11 by decide), if_neg (show ¬ (21 : Int32) = 16 by decide), if_neg (show ¬ (21 : Int32) = 17 by decide), if_neg (show ¬ (21 : Int32) = 18 by decide), if_neg (show ¬ (21 : Int32) = 19 by decide), if_neg (show ¬ (21 : Int32) = 20 by decide), if_pos (show (21 : Int32) = 21 by decide), if_neg (show ¬ (21 : Int32) = 22 by decide), if_neg (show ¬ (21 : Int32) = 23 by decide), if_neg (show ¬ (21 : Int32) = 24 by decide), if_neg (show ¬ (21 : Int32) = 25 by decide), if_neg (show ¬ (21 : Int32) = 26 by decide), if_neg (show ¬ (21 : Int32) = 27 by decide), if_true, if_false]
  all_goals rfl
theorem jt_6 (u : CSt) (t g w : Int32) : C_Mo_holds (ra u t g w) 6 = C_M_isJumpTaken u 22 := by
  unfold C_Mo_holds C_M_isJumpTaken
  simp only [e_has, if_neg (show ¬ (6 : Int32) = 0 by decide), if_neg (show ¬ (6 : Int32) = 1 by decide), if_neg (show ¬ (6 : Int32) = 2 by decide), if_neg (show ¬ (6 : Int32) = 3 by decide), if_neg (show ¬ (6 : Int32) = 4 by decide), if_neg (show ¬ (6 : Int32) = 5 by decide), if_pos (show (6 : Int32) = 6 by decide), if_neg (show ¬ (6 : Int32) = 7 by decide), if_neg (show ¬ (6 : Int32) = 8 by decide), if_neg (show ¬ (6 : Int32) = 9 by decide), if_neg (show ¬ (6 : Int32) = 10 by decide), if_neg (show ¬ (6 : Int32) = 11 by decide), if_neg (show ¬ (22 : Int32) = 16 by decide), if_neg (show ¬ (22 : Int32) = 17 by decide), if_neg (show ¬ (22 : Int32) = 18 by decide), if_neg (show ¬ (22 : Int32) = 19 by decide), if_neg (show ¬ (22 : Int32) = 20 by decide), if_neg (show ¬ (22 : Int32) = 21 by decide), if_pos (show (22 : Int32) = 22 by decide), if_neg (show ¬ (22 : Int32) = 23 by decide), if_neg (show ¬ (22 : Int32) = 24 by decide), if_neg (show ¬ (22 : Int32) = 25 by decide), if_neg (show ¬ (22 : Int32) = 26 by decide), if_neg (show ¬ (22 : Int32) = 27 by decide), if_true, if_false]
  all_goals rfl
theorem jt_7 (u : CSt) (t g w : Int32) : C_Mo_holds (ra u t g w) 7 = C_M_isJumpTaken u 23 := by
  unfold C_Mo_holds C_M_isJumpTaken
  simp only [e_has, if_neg (show ¬ (7 : Int32) = 0 by decide), if_neg (show ¬ (7 : Int32) = 1 by decide), if_neg (show ¬ (7 : Int32) = 2 by decide), if_neg (show ¬ (7 : Int32) = 3 by decide), if_neg (show ¬ (7 : Int32) = 4 by decide), if_neg (show ¬ (7 : Int32) = 5 by decide), if_neg (show ¬ (7 : Int32) = 6 by decide), if_pos (show (7 : Int32) = 7 by decide), if_neg (show ¬ (7 : Int32) = 8 by decide), if_neg (show ¬ (7 : Int32) = 9 by decide), if_neg (show ¬ (7 : Int32) = 10 by decide), if_neg (show ¬ (7 : Int32) = 11 by decide), if_neg (show ¬ (23 : Int32) = 16 by decide), if_neg (show ¬ (23 : Int32) = 17 by decide), if_neg (show ¬ (23 : Int32) = 18 by decide), if_neg (show ¬ (23 : Int32) = 19 by decide), if_neg (show ¬ (23 : Int32) = 20 by decide), if_neg (show ¬ (23 : Int32) = 21 by decide), if_neg (show ¬ (23 : Int32) = 22 by decide), if_pos (show (23 : Int32) = 23 by decide), if_neg (show ¬ (23 : Int32) = 24 by decide), if_neg (show ¬ (23 : Int32) = 25 by decide), if_neg (show ¬ (23 : Int32) = 26 by decide), if_neg (show ¬ (23 : Int32) = 27 by decide), if_true, if_false]
  all_goals rfl
theorem jt_8 (u : CSt) (t g w : Int32) : C_Mo_holds (ra u t g w) 8 = C_M_isJumpTaken u 24 := by
  unfold C_Mo_holds C_M_isJumpTaken
  simp only [e_has, if_neg (show ¬ (8 : Int32) = 0 by decide), if_neg (show ¬ (8 : Int32) = 1 by decide), if_neg (show ¬ (8 : Int32) = 2 by decide), if_neg (show ¬ (8 : Int32) = 3 by decide), if_neg (show ¬ (8 : Int32) = 4 by decide), if_neg (show ¬ (8 : Int32) = 5 by decide), if_neg (show ¬ (8 : Int32) = 6 by decide), if_neg (show ¬ (8 : Int32) = 7 by decide), if_pos (show (8 : Int32) = 8 by decide), if_neg (show ¬ (8 : Int32) = 9 by decide), if_neg (show ¬ (8 : Int32) = 10 by decide), if_neg (show ¬ (8 : Int32) = 11 by decide), if_neg (show ¬ (24 : Int32) = 16 by decide), if_neg (show ¬ (24 : Int32) = 17 by decide), if_neg (show ¬ (24 : Int32) = 18 by decide), if_neg (show ¬ (24 : Int32) = 19 by decide), if_neg (show ¬ (24 : Int32) = 20 by decide), if_neg (show ¬ (24 : Int32) = 21 by decide), if_neg (show ¬ (24 : Int32) = 22 by decide), if_neg (show ¬ (24 : Int32) = 23 by decide), if_pos (show (24 : Int32) = 24 by decide), if_neg (show ¬ (24 : Int32) = 25 by decide), if_neg (show ¬ (24 : Int32) = 26 by decide), if_neg (show ¬ (24 : Int32) = 27 by decide), if_true, if_false]
  all_goals rfl
theorem jt_9 (u : CSt) (t g w : Int32) : C_Mo_holds (ra u t g w) 9 = C_M_isJumpTaken u 25 := by
  unfold C_Mo_holds C_M_isJumpTaken
  simp only [e_has, if_neg (show ¬ (9 : Int32) = 0 by decide), if_neg (show ¬ (9 : Int32) = 1 by decide), if_neg (show ¬ (9 : Int32) = 2 by decide), if_neg (show ¬ (9 : Int32) = 3 by decide), if_neg (show ¬ (9 : Int32) = 4 by decide), if_neg (show ¬ (9 : Int32) = 5 by decide), if_neg (show ¬ (9 : Int32) = 6 by decide), if_neg (show ¬ (9 : Int32) = 7 by decide), if_neg (show ¬ (9 : Int32) = 8 by decide), if_pos (show (9 : Int32) = 9 by decide), if_neg (show ¬ (9 : Int32) = 10 by decide), if_neg (show ¬ (9 : Int32) = 11 by decide), if_neg (show ¬ (25 : Int32) = 16 by decide), if_neg (show ¬ (25 : Int32) = 17 by decide), if_neg (show ¬ (25 : Int32) = 18 by decide), if_neg (show ¬ (25 : Int32) = 19 by decide), if_neg (show ¬ (25 : Int32) = 20 by decide), if_neg (show ¬ (25 : Int32) = 21 by decide), if_neg (show ¬ (25 : Int32) = 22 by decide), if_neg (show ¬ (25 : Int32) = 23 by decide), if_neg (show ¬ (25 : Int32) = 24 by decide), if_pos (show (25 : Int32) = 25 by decide), if_neg (show ¬ (25 : Int32) = 26 by decide), if_neg (show ¬ (25 : Int32) = 27 by decide), if_true, if_false]
  all_goals rfl
theorem jt_10 (u : CSt) (t g w : Int32) : C_Mo_holds (ra u t g w) 10 = C_M_isJumpTaken u 26 := by
  unfold C_Mo_holds C_M_isJumpTaken
  simp only [e_has, if_neg (show ¬ (10 : Int32) = 0 by decide), if_neg (show ¬ (10 : Int32) = 1 by decide), if_neg (show ¬ (10 : Int32) = 2 by decide), if_neg (show ¬ (10 : Int32) = 3 by decide), if_neg (show ¬ (10 : Int32) = 4 by decide), if_neg (show ¬ (10 : Int32) = 5 by decide), if_neg (show ¬ (10 : Int32) = 6 by decide), if_neg (show ¬ (10 : Int32) = 7 by decide), if_neg (show ¬ (10 : Int32) = 8 by decide), if_neg (show ¬ (10 : Int32) = 9 by decide), if_pos (show (10 : Int32) = 10 by decide), if_neg (show ¬ (10 : Int32) = 11 by decide), if_neg (show ¬ (26 : Int32) = 16 by decide), if_neg (show ¬ (26 : Int32) = 17 by decide), if_neg (show ¬ (26 : Int32) = 18 by decide), if_neg (show ¬ (26 : Int32) = 19 by decide), if_neg (show ¬ (26 : Int32) = 20 by decide), if_neg (show ¬ (26 : Int32) = 21 by decide), if_neg (show ¬ (26 : Int32) = 22 by decide), if_neg (show ¬ (26 : Int32) = 23 by decide), if_neg (show ¬ (26 : Int32) = 24 by decide), if_neg (show ¬ (26 : Int32) = 25 by decide), if_pos (show (26 : Int32) = 26 by decide), if_neg (show ¬ (26 : Int32) = 27 by decide), if_true, if_false]
  all_goals rfl
theorem jt_11 (u : CSt) (t g w : Int32) : C_Mo_holds (ra u t g w) 11 = C_M_isJumpTaken u 27 := by
  unfold C_Mo_holds C_M_isJumpTaken
  simp only [e_has, if_neg (show ¬ (11 : Int32) = 0 by decide), if_neg (show ¬ (11 : Int32) = 1 by decide), if_neg (show ¬ (11 : Int32) = 2 by decide), if_neg (show ¬ (11 : Int32) = 3 by decide), if_neg (show ¬ (11 : Int32) = 4 by decide), if_neg (show ¬ (11 : Int32) = 5 by decide), if_neg (show ¬ (11 : Int32) = 6 by decide), if_neg (show ¬ (11 : Int32) = 7 by decide), if_neg (show ¬ (11 : Int32) = 8 by decide), if_neg (show ¬ (11 : Int32) = 9 by decide), if_neg (show ¬ (11 : Int32) = 10 by decide), if_pos (show (11 : Int32) = 11 by decide), if_neg (show ¬ (27 : Int32) = 16 by decide), if_neg (show ¬ (27 : Int32) = 17 by decide), if_neg (show ¬ (27 : Int32) = 18 by decide), if_neg (show ¬ (27 : Int32) = 19 by decide), if_neg (show ¬ (27 : Int32) = 20 by decide), if_neg (show ¬ (27 : Int32) = 21 by decide), if_neg (show ¬ (27 : Int32) = 22 by decide), if_neg (show ¬ (27 : Int32) = 23 by decide), if_neg (show ¬ (27 : Int32) = 24 by decide), if_neg (show ¬ (27 : Int32) = 25 by decide), if_neg (show ¬ (27 : Int32) = 26 by decide), if_pos (show (27 : Int32) = 27 by decide), if_true, if_false]
  all_goals rfl
theorem jt_12 (u : CSt) (t g w : Int32) : C_Mo_holds (ra u t g w) 12 = C_M_isJumpTaken u 28 := by
  unfold C_Mo_holds C_M_isJumpTaken
  simp only [e_has, if_neg (show ¬ (12 : Int32) = 0 by decide), if_neg (show ¬ (12 : Int32) = 1 by decide), if_neg (show ¬ (12 : Int32) = 2 by decide), if_neg (show ¬ (12 : Int32) = 3 by decide), if_neg (show ¬ (12 : Int32) = 4 by decide), if_neg (show ¬ (12 : Int32) = 5 by decide), if_neg (show ¬ (12 : Int32) = 6 by decide), if_neg (show ¬ (12 : Int32) = 7 by decide), if_neg (show ¬ (12 : Int32) = 8 by decide), if_neg (show ¬ (12 : Int32) = 9 by decide), if_neg (show ¬ (12 : Int32) = 10 by decide), if_neg (show ¬ (12 : Int32) = 11 by decide), if_neg (show ¬ (28 : Int32) = 16 by decide), if_neg (show ¬ (28 : Int32) = 17 by decide), if_neg (show ¬ (28 : Int32) = 18 by decide), if_neg (show ¬ (28 : Int32) = 19 by decide), if_neg (show ¬ (28 : Int32) = 20 by decide), if_neg (show ¬ (28 : Int32) = 21 by decide), if_neg (show ¬ (28 : Int32) = 22 by decide), if_neg (show ¬ (28 : Int32) = 23 by decide), if_neg (show ¬ (28 : Int32) = 24 by decide), if_neg (show ¬ (28 : Int32) = 25 by decide), if_neg (show ¬ (28 : Int32) = 26 by decide), if_neg (show ¬ (28 : Int32) = 27 by decide), if_true, if_false]
  all_goals rfl
theorem e_jump {u : CSt} (h : Iv u) (t g w : Int32) {n : Nat} (h1 : 4096 ≤ n) (h2 : n < 8192) : C_Mo_jumpOrLine (ra u t g w) (nI n) = ra (if 7424 ≤ nI n then (C_M_runOnLine u (nI n)).2 else (C_M_runJump u (nI n)).2) t g w := by
  have e8 : nI n >>> ((8 : Int32) &&& 31) = nI (n / 256) := pk_shrN (by omega) _ 8 (by decide)
  have e15 : nI (n / 256) &&& 15 = nI (n / 256 % 16) := pk_andN (by omega) 4 (by decide)
  have hk : (7424 : Int32) ≤ nI n ↔ 13 ≤ n / 256 % 16 := by
    rw [show (7424 : Int32) = nI 7424 from rfl, nI_leI (by decide) (by omega)]
    omega
  have hy : n / 256 = n / 256 % 16 + 16 := by omega
  have hz : n / 256 % 16 < 16 := by omega
  rw [hy] at e8
  unfold C_Mo_jumpOrLine C_M_runOnLine C_M_runJump
  rw [byEq, e_base t g w h]
  generalize nI n = x at *
  generalize n / 256 % 16 = q at *
  rw [← hy] at e8
  rw [hy] at e8 e15
  simp only [e8, e15, hk]
  rcases (show q = 0 ∨ q = 1 ∨ q = 2 ∨ q = 3 ∨ q = 4 ∨ q = 5 ∨ q = 6 ∨ q = 7 ∨ q = 8 ∨ q = 9 ∨ q = 10 ∨ q = 11 ∨ q = 12 ∨ q = 13 ∨ q = 14 ∨ q = 15 by omega) with rfl | rfl | rfl | rfl | rfl | rfl | rfl | rfl | rfl | rfl | rfl | rfl | rfl | rfl | rfl | rfl
  · simp only [if_neg (show ¬ (13 : Int32) ≤ nI 0 by decide), if_neg (show ¬ (15 : Int32) ≤ nI 0 by decide), if_neg (show ¬ nI (0 + 16) = 29 by decide), if_neg (show ¬ nI (0 + 16) = 30 by decide), if_neg (show ¬ 13 ≤ 0 by decide), if_true, if_false]
    have k : C_Mo_holds (ra u t g w) (nI 0) = C_M_isJumpTaken u (nI (0 + 16)) := jt_0 u t g w
    rw [k]
    unfold J_Mo_jumpOrLine_81
    by_cases b : C_M_isJumpTaken u (nI (0 + 16)) = 0
    · simp only [if_pos b, if_true, if_false]; try rfl
    · simp only [if_neg b, if_true, if_false]; try rfl
  · simp only [if_neg (show ¬ (13 : Int32) ≤ nI 1 by decide), if_neg (show ¬ (15 : Int32) ≤ nI 1 by decide), if_neg (show ¬ nI (1 + 16) = 29 by decide), if_neg (show ¬ nI (1 + 16) = 30 by decide), if_neg (show ¬ 13 ≤ 1 by decide), if_true, if_false]
    have k : C_Mo_holds (ra u t g w) (nI 1) = C_M_isJumpTaken u (nI (1 + 16)) := jt_1 u t g w
    rw [k]
    unfold J_Mo_jumpOrLine_81
    by_cases b : C_M_isJumpTaken u (nI (1 + 16)) = 0
    · simp only [if_pos b, if_true, if_false]; try rfl
    · simp only [if_neg b, if_true, if_false]; try rfl
  · simp only [if_neg (show ¬ (13 : Int32) ≤ nI 2 by decide), if_neg (show ¬ (15 : Int32) ≤ nI 2 by decide), if_neg (show ¬ nI (2 + 16) = 29 by decide), if_neg (show ¬ nI (2 + 16) = 30 by decide), if_neg (show ¬ 13 ≤ 2 by decide), if_true, if_false]
    have k : C_Mo_holds (ra u t g w) (nI 2) = C_M_isJumpTaken u (nI (2 + 16)) := jt_2 u t g w
    rw [k]
    unfold J_Mo_jumpOrLine_81
    by_cases b : C_M_isJumpTaken u (nI (2 + 16)) = 0
    · simp only [if_pos b, if_true, if_false]; try rfl
    · simp only [if_neg b, if_true, if_false]; try rfl
  · simp only [if_neg (show ¬ (13 : Int32) ≤ nI 3 by decide), if_neg (show ¬ (15 : Int32) ≤ nI 3 by decide), if_neg (show ¬ nI (3 + 16) = 29 by decide), if_neg (show ¬ nI (3 + 16) = 30 by decide), if_neg (show ¬ 13 ≤ 3 by decide), if_true, if_false]
    have k : C_Mo_holds (ra u t g w) (nI 3) = C_M_isJumpTaken u (nI (3 + 16)) := jt_3 u t g w
    rw [k]
    unfold J_Mo_jumpOrLine_81
    by_cases b : C_M_isJumpTaken u (nI (3 + 16)) = 0
    · simp only [if_pos b, if_true, if_false]; try rfl
    · simp only [if_neg b, if_true, if_false]; try rfl
  · simp only [if_neg (show ¬ (13 : Int32) ≤ nI 4 by decide), if_neg (show ¬ (15 : Int32) ≤ nI 4 by decide), if_neg (show ¬ nI (4 + 16) = 29 by decide), if_neg (show ¬ nI (4 + 16) = 30 by decide), if_neg (show ¬ 13 ≤ 4 by decide), if_true, if_false]
    have k : C_Mo_holds (ra u t g w) (nI 4) = C_M_isJumpTaken u (nI (4 + 16)) := jt_4 u t g w
    rw [k]
    unfold J_Mo_jumpOrLine_81
    by_cases b : C_M_isJumpTaken u (nI (4 + 16)) = 0
    · simp only [if_pos b, if_true, if_false]; try rfl
    · simp only [if_neg b, if_true, if_false]; try rfl
  · simp only [if_neg (show ¬ (13 : Int32) ≤ nI 5 by decide), if_neg (show ¬ (15 : Int32) ≤ nI 5 by decide), if_neg (show ¬ nI (5 + 16) = 29 by decide), if_neg (show ¬ nI (5 + 16) = 30 by decide), if_neg (show ¬ 13 ≤ 5 by decide), if_true, if_false]
    have k : C_Mo_holds (ra u t g w) (nI 5) = C_M_isJumpTaken u (nI (5 + 16)) := jt_5 u t g w
    rw [k]
    unfold J_Mo_jumpOrLine_81
    by_cases b : C_M_isJumpTaken u (nI (5 + 16)) = 0
    · simp only [if_pos b, if_true, if_false]; try rfl
    · simp only [if_neg b, if_true, if_false]; try rfl
  · simp only [if_neg (show ¬ (13 : Int32) ≤ nI 6 by decide), if_neg (show ¬ (15 : Int32) ≤ nI 6 by decide), if_neg (show ¬ nI (6 + 16) = 29 by decide), if_neg (show ¬ nI (6 + 16) = 30 by decide), if_neg (show ¬ 13 ≤ 6 by decide), if_true, if_false]
    have k : C_Mo_holds (ra u t g w) (nI 6) = C_M_isJumpTaken u (nI (6 + 16)) := jt_6 u t g w
    rw [k]
    unfold J_Mo_jumpOrLine_81
    by_cases b : C_M_isJumpTaken u (nI (6 + 16)) = 0
    · simp only [if_pos b, if_true, if_false]; try rfl
    · simp only [if_neg b, if_true, if_false]; try rfl
  · simp only [if_neg (show ¬ (13 : Int32) ≤ nI 7 by decide), if_neg (show ¬ (15 : Int32) ≤ nI 7 by decide), if_neg (show ¬ nI (7 + 16) = 29 by decide), if_neg (show ¬ nI (7 + 16) = 30 by decide), if_neg (show ¬ 13 ≤ 7 by decide), if_true, if_false]
    have k : C_Mo_holds (ra u t g w) (nI 7) = C_M_isJumpTaken u (nI (7 + 16)) := jt_7 u t g w
    rw [k]
    unfold J_Mo_jumpOrLine_81
    by_cases b : C_M_isJumpTaken u (nI (7 + 16)) = 0
    · simp only [if_pos b, if_true, if_false]; try rfl
    · simp only [if_neg b, if_true, if_false]; try rfl
  · simp only [if_neg (show ¬ (13 : Int32) ≤ nI 8 by decide), if_neg (show ¬ (15 : Int32) ≤ nI 8 by decide), if_neg (show ¬ nI (8 + 16) = 29 by decide), if_neg (show ¬ nI (8 + 16) = 30 by decide), if_neg (show ¬ 13 ≤ 8 by decide), if_true, if_false]
    have k : C_Mo_holds (ra u t g w) (nI 8) = C_M_isJumpTaken u (nI (8 + 16)) := jt_8 u t g w
    rw [k]
    unfold J_Mo_jumpOrLine_81
    by_cases b : C_M_isJumpTaken u (nI (8 + 16)) = 0
    · simp only [if_pos b, if_true, if_false]; try rfl
    · simp only [if_neg b, if_true, if_false]; try rfl
  · simp only [if_neg (show ¬ (13 : Int32) ≤ nI 9 by decide), if_neg (show ¬ (15 : Int32) ≤ nI 9 by decide), if_neg (show ¬ nI (9 + 16) = 29 by decide), if_neg (show ¬ nI (9 + 16) = 30 by decide), if_neg (show ¬ 13 ≤ 9 by decide), if_true, if_false]
    have k : C_Mo_holds (ra u t g w) (nI 9) = C_M_isJumpTaken u (nI (9 + 16)) := jt_9 u t g w
    rw [k]
    unfold J_Mo_jumpOrLine_81
    by_cases b : C_M_isJumpTaken u (nI (9 + 16)) = 0
    · simp only [if_pos b, if_true, if_false]; try rfl
    · simp only [if_neg b, if_true, if_false]; try rfl
  · simp only [if_neg (show ¬ (13 : Int32) ≤ nI 10 by decide), if_neg (show ¬ (15 : Int32) ≤ nI 10 by decide), if_neg (show ¬ nI (10 + 16) = 29 by decide), if_neg (show ¬ nI (10 + 16) = 30 by decide), if_neg (show ¬ 13 ≤ 10 by decide), if_true, if_false]
    have k : C_Mo_holds (ra u t g w) (nI 10) = C_M_isJumpTaken u (nI (10 + 16)) := jt_10 u t g w
    rw [k]
    unfold J_Mo_jumpOrLine_81
    by_cases b : C_M_isJumpTaken u (nI (10 + 16)) = 0
    · simp only [if_pos b, if_true, if_false]; try rfl
    · simp only [if_neg b, if_true, if_false]; try rfl
  · simp only [if_neg (show ¬ (13 : Int32) ≤ nI 11 by decide), if_neg (show ¬ (15 : Int32) ≤ nI 11 by decide), if_neg (show ¬ nI (11 + 16) = 29 by decide), if_neg (show ¬ nI (11 + 16) = 30 by decide), if_neg (show ¬ 13 ≤ 11 by decide), if_true, if_false]
    have k : C_Mo_holds (ra u t g w) (nI 11) = C_M_isJumpTaken u (nI (11 + 16)) := jt_11 u t g w
    rw [k]
    unfold J_Mo_jumpOrLine_81
    by_cases b : C_M_isJumpTaken u (nI (11 + 16)) = 0
    · simp only [if_pos b, if_true, if_false]; try rfl
    · simp only [if_neg b, if_true, if_false]; try rfl
  · simp only [if_neg (show ¬ (13 : Int32) ≤ nI 12 by decide), if_neg (show ¬ (15 : Int32) ≤ nI 12 by decide), if_neg (show ¬ nI (12 + 16) = 29 by decide), if_neg (show ¬ nI (12 + 16) = 30 by decide), if_neg (show ¬ 13 ≤ 12 by decide), if_true, if_false]
    have k : C_Mo_holds (ra u t g w) (nI 12) = C_M_isJumpTaken u (nI (12 + 16)) := jt_12 u t g w
    rw [k]
    unfold J_Mo_jumpOrLine_81
    by_cases b : C_M_isJumpTaken u (nI (12 + 16)) = 0
    · simp only [if_pos b, if_true, if_false]; try rfl
    · simp only [if_neg b, if_true, if_false]; try rfl
  · simp only [if_pos (show (13 : Int32) ≤ nI 13 by decide), if_neg (show ¬ (15 : Int32) ≤ nI 13 by decide), if_pos (show nI (13 + 16) = 29 by decide), if_neg (show ¬ nI (13 + 16) = 30 by decide), if_pos (show 13 ≤ 13 by decide), if_true, if_false]
    rw [show J_Mo_jumpOrLine_110 x = 1 by unfold J_Mo_jumpOrLine_110; rw [e8, e15]; rfl]
    exact e_line u t g w _ (by decide)
  · simp only [if_pos (show (13 : Int32) ≤ nI 14 by decide), if_neg (show ¬ (15 : Int32) ≤ nI 14 by decide), if_neg (show ¬ nI (14 + 16) = 29 by decide), if_pos (show nI (14 + 16) = 30 by decide), if_pos (show 13 ≤ 14 by decide), if_true, if_false]
    rw [show J_Mo_jumpOrLine_110 x = 0 by unfold J_Mo_jumpOrLine_110; rw [e8, e15]; rfl]
    exact e_line u t g w _ (by decide)
  · simp only [if_pos (show (13 : Int32) ≤ nI 15 by decide), if_pos (show (15 : Int32) ≤ nI 15 by decide), if_neg (show ¬ nI (15 + 16) = 29 by decide), if_neg (show ¬ nI (15 + 16) = 30 by decide), if_pos (show 13 ≤ 15 by decide), if_true, if_false]
    rw [on_eq]
    rfl
theorem i_jump {u : CSt} (h : Iv u) (x : Int32) : Iv (C_M_runJump u x).2 := by
  unfold C_M_runJump
  dsimp only
  split
  · exact h
  · exact i_setCounter h _
theorem i_line {u : CSt} (h : Iv u) (x : Int32) : Iv (C_M_runOnLine u x).2 := by
  unfold C_M_runOnLine
  dsimp only
  (repeat' split) <;> exact h
theorem jump_0 (u : CSt) (x : Int32) : (C_M_runJump u x).1 = 0 := by
  unfold C_M_runJump
  dsimp only
  split <;> rfl
theorem line_0 (u : CSt) (x : Int32) : (C_M_runOnLine u x).1 = 0 := by
  unfold C_M_runOnLine
  dsimp only
  (repeat' split) <;> rfl
/-- shifts -/
theorem shr1W {v : Int32} (h : Wd v) : Wd (v >>> ((1 : Int32) &&& 31)) := by
  obtain ⟨n, hn, rfl⟩ := wd_n h
  rw [pk_shrN (by omega) _ 1 (by decide)]
  exact wd_of (by omega)
theorem one15 {v : Int32} : Wd ((v &&& 1) <<< ((15 : Int32) &&& 31)) := by
  obtain ⟨j, hj, e⟩ := pk_andE v (m := 1) 1 (by decide)
  rw [e, pk_shlN _ 15 (by decide) (by omega)]
  exact wd_of (by omega)
theorem sh_W (k : Int32) {v : Int32} (h : Wd v) : Wd (C_M_shiftedOnce k v) := by
  unfold C_M_shiftedOnce
  split
  · exact mk_or (mk_and _ h) (shr1W h)
  · split
    · exact shr1W h
    · split
      · exact wd_m _
      · exact mk_or (shr1W h) one15
theorem st_8 {x c : Int32} (hk : x >>> ((8 : Int32) &&& 31) = 8) (hq : (8 : Int32) &&& 3 = 0) (a : Int32 × Int32 × Int32 × Int32) : B_Mo_shift_64 x c (a.1, a.2.2.1, a.2.1, a.2.2.2) = ((B_M_runShift_38 x c a).1, (B_M_runShift_38 x c a).2.2.1, (B_M_runShift_38 x c a).2.1, (B_M_runShift_38 x c a).2.2.2) := by
  unfold B_Mo_shift_64 B_M_runShift_38 J_Mo_shift_92 J_Mo_shift_122 J_Mo_shift_147 J_Mo_shift_170 C_M_shiftedOnce J_M_runShift_63 J_M_runShift_94
  simp only [hk, hq, if_pos (show (8 : Int32) = 8 by decide), if_neg (show ¬ (8 : Int32) = 9 by decide), if_neg (show ¬ (8 : Int32) = 10 by decide), if_pos (show (0 : Int32) = 0 by decide), if_neg (show ¬ (0 : Int32) = 2 by decide), if_neg (show ¬ (0 : Int32) = 3 by decide), if_true, if_false]
  rw [Int32.or_comm]
theorem st_9 {x c : Int32} (hk : x >>> ((8 : Int32) &&& 31) = 9) (hq : (9 : Int32) &&& 3 = 1) (a : Int32 × Int32 × Int32 × Int32) : B_Mo_shift_64 x c (a.1, a.2.2.1, a.2.1, a.2.2.2) = ((B_M_runShift_38 x c a).1, (B_M_runShift_38 x c a).2.2.1, (B_M_runShift_38 x c a).2.1, (B_M_runShift_38 x c a).2.2.2) := by
  unfold B_Mo_shift_64 B_M_runShift_38 J_Mo_shift_92 J_Mo_shift_122 J_Mo_shift_147 J_Mo_shift_170 C_M_shiftedOnce J_M_runShift_63 J_M_runShift_94
  simp only [hk, hq, if_neg (show ¬ (9 : Int32) = 8 by decide), if_pos (show (9 : Int32) = 9 by decide), if_neg (show ¬ (9 : Int32) = 10 by decide), if_neg (show ¬ (1 : Int32) = 0 by decide), if_neg (show ¬ (1 : Int32) = 2 by decide), if_neg (show ¬ (1 : Int32) = 3 by decide), Int32.or_zero, if_true, if_false]
theorem st_10 {x c : Int32} (hk : x >>> ((8 : Int32) &&& 31) = 10) (hq : (10 : Int32) &&& 3 = 2) (a : Int32 × Int32 × Int32 × Int32) : B_Mo_shift_64 x c (a.1, a.2.2.1, a.2.1, a.2.2.2) = ((B_M_runShift_38 x c a).1, (B_M_runShift_38 x c a).2.2.1, (B_M_runShift_38 x c a).2.1, (B_M_runShift_38 x c a).2.2.2) := by
  unfold B_Mo_shift_64 B_M_runShift_38 J_Mo_shift_92 J_Mo_shift_122 J_Mo_shift_147 J_Mo_shift_170 C_M_shiftedOnce J_M_runShift_63 J_M_runShift_94
  simp only [hk, hq, if_neg (show ¬ (10 : Int32) = 8 by decide), if_neg (show ¬ (10 : Int32) = 9 by decide), if_pos (show (10 : Int32) = 10 by decide), if_neg (show ¬ (2 : Int32) = 0 by decide), if_pos (show (2 : Int32) = 2 by decide), if_neg (show ¬ (2 : Int32) = 3 by decide), if_true, if_false]
theorem st_11 {x c : Int32} (hk : x >>> ((8 : Int32) &&& 31) = 11) (hq : (11 : Int32) &&& 3 = 3) (a : Int32 × Int32 × Int32 × Int32) : B_Mo_shift_64 x c (a.1, a.2.2.1, a.2.1, a.2.2.2) = ((B_M_runShift_38 x c a).1, (B_M_runShift_38 x c a).2.2.1, (B_M_runShift_38 x c a).2.1, (B_M_runShift_38 x c a).2.2.2) := by
  unfold B_Mo_shift_64 B_M_runShift_38 J_Mo_shift_92 J_Mo_shift_122 J_Mo_shift_147 J_Mo_shift_170 C_M_shiftedOnce J_M_runShift_63 J_M_runShift_94
  simp only [hk, hq, if_neg (show ¬ (11 : Int32) = 8 by decide), if_neg (show ¬ (11 : Int32) = 9 by decide), if_neg (show ¬ (11 : Int32) = 10 by decide), if_neg (show ¬ (3 : Int32) = 0 by decide), if_neg (show ¬ (3 : Int32) = 2 by decide), if_pos (show (3 : Int32) = 3 by decide), if_true, if_false]
theorem lp_shift {x c : Int32} (hb : ∀ a : Int32 × Int32 × Int32 × Int32, B_Mo_shift_64 x c (a.1, a.2.2.1, a.2.1, a.2.2.2) = ((B_M_runShift_38 x c a).1, (B_M_runShift_38 x c a).2.2.1, (B_M_runShift_38 x c a).2.1, (B_M_runShift_38 x c a).2.2.2)) :
    ∀ (f : Nat) (a : Int32 × Int32 × Int32 × Int32), L_Mo_shift_64 x c f (a.1, a.2.2.1, a.2.1, a.2.2.2) = ((L_M_runShift_38 x c f a).1, (L_M_runShift_38 x c f a).2.2.1, (L_M_runShift_38 x c f a).2.1, (L_M_runShift_38 x c f a).2.2.2) := by
  intro f
  induction f with
  | zero => intro a; rfl
  | succ f ih =>
    intro a
    rw [L_Mo_shift_64_s, show L_M_runShift_38 x c (f + 1) a = if c ≤ a.2.2.2 then a else L_M_runShift_38 x c f (B_M_runShift_38 x c a) from rfl]
    by_cases h : c ≤ a.2.2.2
    · rw [if_pos h, if_pos h]
    · rw [if_neg h, if_neg h, hb, ih]
theorem lp_W {x c : Int32} : ∀ (f : Nat) (a : Int32 × Int32 × Int32 × Int32), Wd a.1 → Wd (L_M_runShift_38 x c f a).1 := by
  intro f
  induction f with
  | zero => intro a h; exact h
  | succ f ih =>
    intro a h
    show Wd (if c ≤ a.2.2.2 then a else L_M_runShift_38 x c f (B_M_runShift_38 x c a)).1
    split
    · exact h
    · exact ih _ (sh_W _ h)
theorem sr_m (u : CSt) (n v b z : Int32) : C_M_setRegister (C_St_mark u b z) n v = C_St_mark (C_M_setRegister u n v) b z := rfl
theorem e_count (u : CSt) (t g w x : Int32) : J_Mo_shift_39 (J_Mo_shift_28 (ra u t g w) x) = C_M_shiftCount u ((x >>> ((4 : Int32) &&& 31)) &&& 15) := by
  unfold J_Mo_shift_39 J_Mo_shift_28 C_M_shiftCount
  rw [e_register]
  by_cases a : ((x >>> ((4 : Int32) &&& 31)) &&& 15) = 0
  · simp only [if_pos a, if_true, if_false]
  · simp only [if_neg a, if_true, if_false]
theorem e_shift {u : CSt} (h : Iv u) (t g w : Int32) {n : Nat} (h1 : 2048 ≤ n) (h2 : n < 3072) : C_Mo_shift (ra u t g w) (nI n) = ra (C_M_runShift u (nI n)).2 t g w := by
  have e8 : nI n >>> ((8 : Int32) &&& 31) = nI (n / 256) := pk_shrN (by omega) _ 8 (by decide)
  have e3 : nI (n / 256) &&& 3 = nI (n / 256 % 4) := pk_andN (by omega) 2 (by decide)
  have hq1 : 8 ≤ n / 256 := by omega
  have hq2 : n / 256 < 12 := by omega
  generalize nI n = x at *
  generalize n / 256 = q at *
  have key : ∀ (K Q : Int32), x >>> ((8 : Int32) &&& 31) = K → K &&& 3 = Q → (∀ (c : Int32) (a : Int32 × Int32 × Int32 × Int32), B_Mo_shift_64 x c (a.1, a.2.2.1, a.2.1, a.2.2.2) = ((B_M_runShift_38 x c a).1, (B_M_runShift_38 x c a).2.2.1, (B_M_runShift_38 x c a).2.1, (B_M_runShift_38 x c a).2.2.2)) → (Q = 2 ↔ K = 10) → C_Mo_shift (ra u t g w) x = ra (C_M_runShift u x).2 t g w := by
    intro K Q hK hQ hB hi
    unfold C_Mo_shift C_M_runShift J_Mo_shift_217
    dsimp only
    rw [e_count, e_register]
    have lp := lp_shift (hB (C_M_shiftCount u ((x >>> ((4 : Int32) &&& 31)) &&& 15))) ((C_M_shiftCount u ((x >>> ((4 : Int32) &&& 31)) &&& 15)).toInt - (0 : Int32).toInt).toNat (C_M_register u (x &&& 15), 0, 0, 0)
    have hw := lp_W (x := x) (c := C_M_shiftCount u ((x >>> ((4 : Int32) &&& 31)) &&& 15)) ((C_M_shiftCount u ((x >>> ((4 : Int32) &&& 31)) &&& 15)).toInt - (0 : Int32).toInt).toNat (C_M_register u (x &&& 15), 0, 0, 0) (w_reg h _)
    dsimp only at lp
    rw [lp]
    dsimp only
    generalize L_M_runShift_38 x (C_M_shiftCount u ((x >>> ((4 : Int32) &&& 31)) &&& 15)) ((C_M_shiftCount u ((x >>> ((4 : Int32) &&& 31)) &&& 15)).toInt - (0 : Int32).toInt).toNat (C_M_register u (x &&& 15), 0, 0, 0) = Rr at *
    have z1 : J_Mo_shift_199 Rr.2.1 = J_M_runShift_138 Rr.2.1 := rfl
    have z2 : (C_St_tested u Rr.1).1 = Rr.1 := rfl
    rw [e_test _ _ _ _ hw, e_flag, hK, hQ, z1, z2]
    by_cases q2 : Q = 2
    · rw [if_pos q2, if_pos (hi.mp q2), e_flag, e_setRegister, sr_m, sr_m]
    · rw [if_neg q2, if_neg (fun z => q2 (hi.mpr z)), e_setRegister, sr_m]
  rcases (show q = 8 ∨ q = 9 ∨ q = 10 ∨ q = 11 by omega) with rfl | rfl | rfl | rfl
  · exact key 8 0 e8 e3 (fun c a => st_8 e8 e3 a) (by decide)
  · exact key 9 1 e8 e3 (fun c a => st_9 e8 e3 a) (by decide)
  · exact key 10 2 e8 e3 (fun c a => st_10 e8 e3 a) (by decide)
  · exact key 11 3 e8 e3 (fun c a => st_11 e8 e3 a) (by decide)
theorem shift_0 (u : CSt) (x : Int32) : (C_M_runShift u x).1 = 0 := by
  unfold C_M_runShift
  dsimp only
  split <;> rfl
theorem i_shift {u : CSt} (h : Iv u) (x : Int32) : Iv (C_M_runShift u x).2 := by
  unfold C_M_runShift
  dsimp only
  split
  · exact i_mark (i_mark (i_setRegister (i_tested h _) _ _) _ _) _ _
  · exact i_mark (i_setRegister (i_tested h _) _ _) _ _
