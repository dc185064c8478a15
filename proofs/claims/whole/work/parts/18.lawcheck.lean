/-! the law's own code list, in pieces -/
set_option maxRecDepth 100000 in
theorem zLk0 : ((pL_law.drop 0).take 60).all (zck "PhoneBenchLaw" "law" code 4 ret zML pL_law) = true := by decide +kernel
set_option maxRecDepth 100000 in
theorem zLk1 : ((pL_law.drop 60).take 60).all (zck "PhoneBenchLaw" "law" code 4 ret zML pL_law) = true := by decide +kernel
set_option maxRecDepth 100000 in
theorem zLk2 : ((pL_law.drop 120).take 60).all (zck "PhoneBenchLaw" "law" code 4 ret zML pL_law) = true := by decide +kernel
set_option maxRecDepth 100000 in
theorem zLk3 : ((pL_law.drop 180).take 60).all (zck "PhoneBenchLaw" "law" code 4 ret zML pL_law) = true := by decide +kernel
set_option maxRecDepth 100000 in
theorem zLk4 : ((pL_law.drop 240).take 60).all (zck "PhoneBenchLaw" "law" code 4 ret zML pL_law) = true := by decide +kernel
set_option maxRecDepth 100000 in
theorem zLk5 : ((pL_law.drop 300).take 60).all (zck "PhoneBenchLaw" "law" code 4 ret zML pL_law) = true := by decide +kernel
set_option maxRecDepth 100000 in
theorem zLk6 : ((pL_law.drop 360).take 60).all (zck "PhoneBenchLaw" "law" code 4 ret zML pL_law) = true := by decide +kernel
set_option maxRecDepth 100000 in
theorem zLk7 : ((pL_law.drop 420).take 60).all (zck "PhoneBenchLaw" "law" code 4 ret zML pL_law) = true := by decide +kernel
set_option maxRecDepth 100000 in
theorem zLk8 : ((pL_law.drop 480).take 60).all (zck "PhoneBenchLaw" "law" code 4 ret zML pL_law) = true := by decide +kernel
set_option maxRecDepth 100000 in
theorem zLk9 : ((pL_law.drop 540).take 60).all (zck "PhoneBenchLaw" "law" code 4 ret zML pL_law) = true := by decide +kernel
set_option maxRecDepth 100000 in
theorem zLk10 : ((pL_law.drop 600).take 60).all (zck "PhoneBenchLaw" "law" code 4 ret zML pL_law) = true := by decide +kernel
set_option maxRecDepth 100000 in
theorem zLk11 : ((pL_law.drop 660).take 60).all (zck "PhoneBenchLaw" "law" code 4 ret zML pL_law) = true := by decide +kernel
set_option maxRecDepth 100000 in
theorem zLk12 : ((pL_law.drop 720).take 60).all (zck "PhoneBenchLaw" "law" code 4 ret zML pL_law) = true := by decide +kernel
set_option maxRecDepth 100000 in
theorem zLk13 : ((pL_law.drop 780).take 60).all (zck "PhoneBenchLaw" "law" code 4 ret zML pL_law) = true := by decide +kernel
set_option maxRecDepth 100000 in
theorem zLk14 : ((pL_law.drop 840).take 60).all (zck "PhoneBenchLaw" "law" code 4 ret zML pL_law) = true := by decide +kernel
set_option maxRecDepth 100000 in
theorem zLk15 : ((pL_law.drop 900).take 60).all (zck "PhoneBenchLaw" "law" code 4 ret zML pL_law) = true := by decide +kernel
set_option maxRecDepth 100000 in
theorem zLk16 : ((pL_law.drop 960).take 60).all (zck "PhoneBenchLaw" "law" code 4 ret zML pL_law) = true := by decide +kernel
set_option maxRecDepth 100000 in
theorem zLk17 : ((pL_law.drop 1020).take 60).all (zck "PhoneBenchLaw" "law" code 4 ret zML pL_law) = true := by decide +kernel
set_option maxRecDepth 100000 in
theorem zLk18 : ((pL_law.drop 1080).take 60).all (zck "PhoneBenchLaw" "law" code 4 ret zML pL_law) = true := by decide +kernel
theorem zsplit {α : Type} (p : α → Bool) (k n : Nat) (L : List α) (h1 : ((L.drop k).take n).all p = true) (h2 : (L.drop (k + n)).all p = true) : (L.drop k).all p = true := by
  have h : (((L.drop k).take n) ++ ((L.drop k).drop n)).all p = true := by
    rw [List.all_append, h1, List.drop_drop, h2]
    rfl
  rwa [List.take_append_drop] at h
set_option maxRecDepth 100000 in
theorem zLkE : (pL_law.drop 1140).all (zck "PhoneBenchLaw" "law" code 4 ret zML pL_law) = true := by decide +kernel
set_option maxRecDepth 100000 in
theorem zLkC : zchain pL_law = true := by decide +kernel
set_option maxRecDepth 100000 in
theorem zputL : (pL_law.any fun e => zisp e.2.1) = false := by decide +kernel
theorem zLkA : pL_law.all (zck "PhoneBenchLaw" "law" code 4 ret zML pL_law) = true := (zsplit _ 0 60 _ zLk0 (zsplit _ 60 60 _ zLk1 (zsplit _ 120 60 _ zLk2 (zsplit _ 180 60 _ zLk3 (zsplit _ 240 60 _ zLk4 (zsplit _ 300 60 _ zLk5 (zsplit _ 360 60 _ zLk6 (zsplit _ 420 60 _ zLk7 (zsplit _ 480 60 _ zLk8 (zsplit _ 540 60 _ zLk9 (zsplit _ 600 60 _ zLk10 (zsplit _ 660 60 _ zLk11 (zsplit _ 720 60 _ zLk12 (zsplit _ 780 60 _ zLk13 (zsplit _ 840 60 _ zLk14 (zsplit _ 900 60 _ zLk15 (zsplit _ 960 60 _ zLk16 (zsplit _ 1020 60 _ zLk17 (zsplit _ 1080 60 _ zLk18 zLkE)))))))))))))))))))
theorem zcodeL : zcode "PhoneBenchLaw" "law" code 4 ret zML pL_law = true := by
  unfold zcode
  rw [zLkA, zLkC]
  rfl
