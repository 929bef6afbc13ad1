set_option maxRecDepth 100000 in
theorem cl_0 : chkB 278 (((am_code 278).drop 0).take 40) = true := by decide +kernel
set_option maxRecDepth 100000 in
theorem cl_1 : chkB 278 (((am_code 278).drop 40).take 40) = true := by decide +kernel
set_option maxRecDepth 100000 in
theorem cl_2 : chkB 278 (((am_code 278).drop 80).take 40) = true := by decide +kernel
set_option maxRecDepth 100000 in
theorem cl_3 : chkB 278 (((am_code 278).drop 120).take 40) = true := by decide +kernel
set_option maxRecDepth 100000 in
theorem cl_4 : chkB 278 (((am_code 278).drop 160).take 40) = true := by decide +kernel
set_option maxRecDepth 100000 in
theorem cl_5 : chkB 278 (((am_code 278).drop 200).take 40) = true := by decide +kernel
set_option maxRecDepth 100000 in
theorem cl_6 : chkB 278 (((am_code 278).drop 240).take 40) = true := by decide +kernel
set_option maxRecDepth 100000 in
theorem cl_7 : chkB 278 (((am_code 278).drop 280).take 40) = true := by decide +kernel
set_option maxRecDepth 100000 in
theorem cl_8 : chkB 278 (((am_code 278).drop 320).take 40) = true := by decide +kernel
set_option maxRecDepth 100000 in
theorem cl_9 : chkB 278 (((am_code 278).drop 360).take 40) = true := by decide +kernel
set_option maxRecDepth 100000 in
theorem cl_10 : chkB 278 (((am_code 278).drop 400).take 40) = true := by decide +kernel
set_option maxRecDepth 100000 in
theorem cl_11 : chkB 278 (((am_code 278).drop 440).take 40) = true := by decide +kernel
set_option maxRecDepth 100000 in
theorem cl_12 : chkB 278 (((am_code 278).drop 480).take 40) = true := by decide +kernel
set_option maxRecDepth 100000 in
theorem cl_13 : chkB 278 (((am_code 278).drop 520).take 40) = true := by decide +kernel
set_option maxRecDepth 100000 in
theorem cl_14 : chkB 278 (((am_code 278).drop 560).take 40) = true := by decide +kernel
set_option maxRecDepth 100000 in
theorem cl_15 : chkB 278 (((am_code 278).drop 600).take 40) = true := by decide +kernel
set_option maxRecDepth 100000 in
theorem cl_16 : chkB 278 (((am_code 278).drop 640).take 40) = true := by decide +kernel
set_option maxRecDepth 100000 in
theorem cl_17 : chkB 278 (((am_code 278).drop 680).take 40) = true := by decide +kernel
set_option maxRecDepth 100000 in
theorem cl_18 : chkB 278 (((am_code 278).drop 720).take 40) = true := by decide +kernel
set_option maxRecDepth 100000 in
theorem cl_19 : chkB 278 (((am_code 278).drop 760).take 40) = true := by decide +kernel
set_option maxRecDepth 100000 in
theorem cl_20 : chkB 278 (((am_code 278).drop 800).take 40) = true := by decide +kernel
set_option maxRecDepth 100000 in
theorem cl_21 : chkB 278 (((am_code 278).drop 840).take 40) = true := by decide +kernel
set_option maxRecDepth 100000 in
theorem cl_22 : chkB 278 (((am_code 278).drop 880).take 40) = true := by decide +kernel
set_option maxRecDepth 100000 in
theorem cl_23 : chkB 278 (((am_code 278).drop 920).take 40) = true := by decide +kernel
set_option maxRecDepth 100000 in
theorem cl_24 : chkB 278 (((am_code 278).drop 960).take 40) = true := by decide +kernel
set_option maxRecDepth 100000 in
theorem cl_25 : chkB 278 (((am_code 278).drop 1000).take 40) = true := by decide +kernel
theorem chkB_app (m : Nat) : ∀ (a b : List am_I), chkB m a = true → chkB m b = true → chkB m (a ++ b) = true
  | [], _, _, h => h
  | e :: t, b, ha, hb => by
    simp only [chkB, Bool.and_eq_true, List.cons_append] at ha ⊢
    exact ⟨ha.1, chkB_app m t b ha.2 hb⟩
theorem chkB_cut (m k : Nat) (l : List am_I) (h1 : chkB m (l.take k) = true) (h2 : chkB m (l.drop k) = true) : chkB m l = true := by
  have h := chkB_app m _ _ h1 h2
  rwa [List.take_append_drop] at h
theorem chkB_step (m j k : Nat) (l : List am_I) (h1 : chkB m ((l.drop j).take k) = true) (h2 : chkB m (l.drop (j + k)) = true) : chkB m (l.drop j) = true := by
  refine chkB_cut m k _ h1 ?_
  rw [List.drop_drop]
  exact h2
theorem cl_end : chkB 278 ((am_code 278).drop 1040) = true := by decide +kernel
theorem cb_278 : chkB 278 (am_code 278) = true := chkB_step 278 0 40 _ cl_0 (chkB_step 278 40 40 _ cl_1 (chkB_step 278 80 40 _ cl_2 (chkB_step 278 120 40 _ cl_3 (chkB_step 278 160 40 _ cl_4 (chkB_step 278 200 40 _ cl_5 (chkB_step 278 240 40 _ cl_6 (chkB_step 278 280 40 _ cl_7 (chkB_step 278 320 40 _ cl_8 (chkB_step 278 360 40 _ cl_9 (chkB_step 278 400 40 _ cl_10 (chkB_step 278 440 40 _ cl_11 (chkB_step 278 480 40 _ cl_12 (chkB_step 278 520 40 _ cl_13 (chkB_step 278 560 40 _ cl_14 (chkB_step 278 600 40 _ cl_15 (chkB_step 278 640 40 _ cl_16 (chkB_step 278 680 40 _ cl_17 (chkB_step 278 720 40 _ cl_18 (chkB_step 278 760 40 _ cl_19 (chkB_step 278 800 40 _ cl_20 (chkB_step 278 840 40 _ cl_21 (chkB_step 278 880 40 _ cl_22 (chkB_step 278 920 40 _ cl_23 (chkB_step 278 960 40 _ cl_24 (chkB_step 278 1000 40 _ cl_25 (cl_end))))))))))))))))))))))))))
