/-! ===== arrays as they are made ===== -/
theorem cell0_i (n : Nat) (cA : ClassId) : vp_cell cA (n, .inl (fun _ => iI 0)) = arrV cA n (fun _ => defaultValue .int) := congrArg (arrV cA n) (funext fun _ => congrArg Value.int (show iI 0 = 0 by decide))
theorem cell0_z (n : Nat) (cA : ClassId) : vp_cell cA (n, .inl (fun _ => 0)) = arrV cA n (fun _ => defaultValue .boolean) := congrArg (arrV cA n) (funext fun _ => show Value.int 0 = defaultValue .boolean from rfl)
theorem cell0_c (n : Nat) (cA : ClassId) : vp_cell cA (n, .inl (fun _ => nI 0)) = arrV cA n (fun _ => defaultValue .char) := congrArg (arrV cA n) (funext fun _ => congrArg Value.int (show nI 0 = 0 by decide))
theorem cell0_l (n : Nat) (cA : ClassId) : vp_cell cA (n, .inr (.inl (fun _ => 0))) = arrV cA n (fun _ => defaultValue .long) := congrArg (arrV cA n) (funext fun _ => show Value.long 0 = defaultValue .long from rfl)
theorem dX0_init_0 : decode cX0_init 0 = .ok (.aload_n 0, 1) := by decide +kernel
theorem dX0_init_1 : decode cX0_init 1 = .ok (.invokespecial 3, 3) := by decide +kernel
theorem dX0_init_4 : decode cX0_init 4 = .ok (.aload_n 0, 1) := by decide +kernel
theorem dX0_init_5 : decode cX0_init 5 = .ok (.sipush 166, 3) := by decide +kernel
theorem dX0_init_8 : decode cX0_init 8 = .ok (.newarray .boolean, 2) := by decide +kernel
theorem dX0_init_10 : decode cX0_init 10 = .ok (.putfield 9, 3) := by decide +kernel
theorem dX0_init_13 : decode cX0_init 13 = .ok (.aload_n 0, 1) := by decide +kernel
theorem dX0_init_14 : decode cX0_init 14 = .ok (.iconst 0, 1) := by decide +kernel
theorem dX0_init_15 : decode cX0_init 15 = .ok (.putfield 15, 3) := by decide +kernel
theorem dX0_init_18 : decode cX0_init 18 = .ok (.return_, 1) := by decide +kernel
