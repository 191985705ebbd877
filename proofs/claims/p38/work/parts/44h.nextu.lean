theorem c_L_isNextSo {l : Launch} {G : GT} {H0 : Heap} (a : Nat → Nat) (v : SVT) (j : JT) (oa : Nat) (of : Nat → Int32) (lo9 : Nat) (hl9 : lo9 = 0 ∨ lo9 = 1) (hv : OKS v) (hpc : PIC v) (hpi : sPi v ≤ 900) (hj : OKJ j) (hfl : l.stackTraces = false) (hP0 : PP G (oW G a v j ++ ouW G oa of) H0) (hB0 : va_D (lo G) (oW G a v j ++ ouW G oa of)) :
    Met l yL_isNextSo wsL_isNextSo ({ frames := 9, cells := 1, slots := 6, locals := 168 } : Room) (pcX G [.ref (a 0), .int (nI lo9), .ref oa] H0) (qMi G (fun (r : Int32) (u : JT × (Nat → Int32)) => r = nI 1 ∧ OKJ u.1 ∧ jH u.1 = rbH (jH j) v) (fun (u : JT × (Nat → Int32)) => oW G a v u.1 ++ ouW G oa u.2) (oW G a v j ++ ouW G oa of) H0) 1 6 (va_A (oW G a v j ++ ouW G oa of) H0.size) := by
  by_cases hkey : sPi v % sKd v = 0
  · rcases hl9 with rfl | rfl
    · exact c_L_next_k0 a v j oa of hv hpc hpi hj hkey hfl hP0 hB0
    · exact c_L_next_k1 a v j oa of hv hpc hpi hj hkey hfl hP0 hB0
  · rcases hl9 with rfl | rfl
    · exact c_L_next_n0 a v j oa of hv hpc hpi hj hkey hfl hP0 hB0
    · exact c_L_next_n1 a v j oa of hv hpc hpi hj hkey hfl hP0 hB0
