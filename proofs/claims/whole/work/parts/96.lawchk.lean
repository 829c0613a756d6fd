/-! ===== the law's own code is its data ===== -/
set_option maxRecDepth 100000 in
theorem cl_all : cd_L_law = cl_0 ++ (cl_1 ++ (cl_2 ++ (cl_3 ++ (cl_4 ++ (cl_5 ++ (cl_6 ++ (cl_7 ++ (cl_8 ++ (cl_9 ++ cl_10))))))))) := rfl
theorem chk_app {o : Nat} {ini : Bool} {rk : Nat} {cc : ByteArray} {nL fr lo : Nat} {a b : Cd} (h1 : chk o ini rk cc nL fr lo a = true) (h2 : chk o ini rk cc nL fr lo b = true) : chk o ini rk cc nL fr lo (a ++ b) = true := by
  unfold chk at h1 h2 ⊢
  rw [List.all_append, h1, h2]
  rfl
theorem ck_L : chk 15 false 2 cL_law 4 6 145 cd_L_law = true := by
  rw [cl_all]
  exact chk_app ck_L_0 (chk_app ck_L_1 (chk_app ck_L_2 (chk_app ck_L_3 (chk_app ck_L_4 (chk_app ck_L_5 (chk_app ck_L_6 (chk_app ck_L_7 (chk_app ck_L_8 (chk_app ck_L_9 ck_L_10)))))))))
