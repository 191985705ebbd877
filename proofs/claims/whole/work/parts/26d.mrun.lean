set_option maxHeartbeats 4000000 in
set_option maxRecDepth 100000 in
theorem c_rc_ok {l : Launch} {G : GT} {H0 : Heap} (mh m1 m2 m3 m4 m5 : Nat) (ss hi sl : Nat → Int) (tx : Nat → Nat) (ne : Nat → Int) (th : Int32) (kn ke le sp : Nat) (si on tw dn : Int32) (htx : T128 tx) (hle : le ≤ 80) (hw : WC tx le sp) (hP0 : PP G ([(mh, .inr (8, [.int (th), .ref m1, .ref m2, .int (nI (kn)), .ref m3, .int (nI (ke)), .ref m4, .int (nI (le)), .ref m5, .int (nI (sp)), .int (nI (0)), .int (si), .int (on), .int (tw), .int (dn)])), (m1, .inl (cI G, 205, .inl (fun z9 => iI (ss z9)))), (m2, .inl (cI G, 1230, .inl (fun z9 => iI (hi z9)))), (m3, .inl (cI G, 410, .inl (fun z9 => iI (sl z9)))), (m4, .inl (cI G, 80, .inl (fun z9 => nI (tx z9)))), (m5, .inl (cI G, 128, .inl (fun z9 => iI (ne z9))))]) H0) (hB0 : va_D (lo G) ([(mh, .inr (8, [.int (th), .ref m1, .ref m2, .int (nI (kn)), .ref m3, .int (nI (ke)), .ref m4, .int (nI (le)), .ref m5, .int (nI (sp)), .int (nI (0)), .int (si), .int (on), .int (tw), .int (dn)])), (m1, .inl (cI G, 205, .inl (fun z9 => iI (ss z9)))), (m2, .inl (cI G, 1230, .inl (fun z9 => iI (hi z9)))), (m3, .inl (cI G, 410, .inl (fun z9 => iI (sl z9)))), (m4, .inl (cI G, 80, .inl (fun z9 => nI (tx z9)))), (m5, .inl (cI G, 128, .inl (fun z9 => iI (ne z9))))])) : Met l yX9_readCommand wsX9_readCommand ({ frames := 3, cells := 0, slots := 0, locals := 67 } : Room) (pcG G [.ref mh] H0) (qMv G (fun (u : Int32 × Int32 × Int32) => u.1 = nI (tx sp) ∧ (tx sp = 112 → u.2.1 = nI (nvN tx le (sp + 1)) ∧ u.2.2 = nI (nvN tx le (s2P tx le sp)))) (fun (u : Int32 × Int32 × Int32) => [(mh, .inr (8, [.int (th), .ref m1, .ref m2, .int (nI (kn)), .ref m3, .int (nI (ke)), .ref m4, .int (nI (le)), .ref m5, .int (nI (ceP tx le sp)), .int (nI (0)), .int (u.1), .int (u.2.1), .int (u.2.2), .int (dn)])), (m1, .inl (cI G, 205, .inl (fun z9 => iI (ss z9)))), (m2, .inl (cI G, 1230, .inl (fun z9 => iI (hi z9)))), (m3, .inl (cI G, 410, .inl (fun z9 => iI (sl z9)))), (m4, .inl (cI G, 80, .inl (fun z9 => nI (tx z9)))), (m5, .inl (cI G, 128, .inl (fun z9 => iI (ne z9))))]) ([(mh, .inr (8, [.int (th), .ref m1, .ref m2, .int (nI (kn)), .ref m3, .int (nI (ke)), .ref m4, .int (nI (le)), .ref m5, .int (nI (sp)), .int (nI (0)), .int (si), .int (on), .int (tw), .int (dn)])), (m1, .inl (cI G, 205, .inl (fun z9 => iI (ss z9)))), (m2, .inl (cI G, 1230, .inl (fun z9 => iI (hi z9)))), (m3, .inl (cI G, 410, .inl (fun z9 => iI (sl z9)))), (m4, .inl (cI G, 80, .inl (fun z9 => nI (tx z9)))), (m5, .inl (cI G, 128, .inl (fun z9 => iI (ne z9))))]) H0) 0 0 (va_A ([(mh, .inr (8, [.int (th), .ref m1, .ref m2, .int (nI (kn)), .ref m3, .int (nI (ke)), .ref m4, .int (nI (le)), .ref m5, .int (nI (sp)), .int (nI (0)), .int (si), .int (on), .int (tw), .int (dn)])), (m1, .inl (cI G, 205, .inl (fun z9 => iI (ss z9)))), (m2, .inl (cI G, 1230, .inl (fun z9 => iI (hi z9)))), (m3, .inl (cI G, 410, .inl (fun z9 => iI (sl z9)))), (m4, .inl (cI G, 80, .inl (fun z9 => nI (tx z9)))), (m5, .inl (cI G, 128, .inl (fun z9 => iI (ne z9))))]) H0.size) := by
  obtain ⟨hi8, hw⟩ := hw
  rcases hw with hs | ⟨hp, hd1, hm, hd2⟩
  · have hs9 : tx sp = 117 ∨ tx sp = 100 ∨ tx sp = 108 ∨ tx sp = 114 ∨ tx sp = 115 ∨ tx sp = 120 := hs
    have e : ceP tx le sp = sp + 1 := by unfold ceP; rw [if_neg (by omega)]
    rw [e]
    rcases hs9 with hc | hc | hc | hc | hc | hc
    · exact metMapV (c_X9_readCommand_s117 mh m1 m2 m3 m4 m5 ss hi sl tx ne th kn ke le sp si on tw dn htx hle hi8 hc hP0 hB0) (fun _ h => h) (fun u H1 _ hu h1 => ⟨(nI 117, on, tw), ⟨by rw [hc], fun z => absurd z (by omega)⟩, h1⟩)
    · exact metMapV (c_X9_readCommand_s100 mh m1 m2 m3 m4 m5 ss hi sl tx ne th kn ke le sp si on tw dn htx hle hi8 hc hP0 hB0) (fun _ h => h) (fun u H1 _ hu h1 => ⟨(nI 100, on, tw), ⟨by rw [hc], fun z => absurd z (by omega)⟩, h1⟩)
    · exact metMapV (c_X9_readCommand_s108 mh m1 m2 m3 m4 m5 ss hi sl tx ne th kn ke le sp si on tw dn htx hle hi8 hc hP0 hB0) (fun _ h => h) (fun u H1 _ hu h1 => ⟨(nI 108, on, tw), ⟨by rw [hc], fun z => absurd z (by omega)⟩, h1⟩)
    · exact metMapV (c_X9_readCommand_s114 mh m1 m2 m3 m4 m5 ss hi sl tx ne th kn ke le sp si on tw dn htx hle hi8 hc hP0 hB0) (fun _ h => h) (fun u H1 _ hu h1 => ⟨(nI 114, on, tw), ⟨by rw [hc], fun z => absurd z (by omega)⟩, h1⟩)
    · exact metMapV (c_X9_readCommand_s115 mh m1 m2 m3 m4 m5 ss hi sl tx ne th kn ke le sp si on tw dn htx hle hi8 hc hP0 hB0) (fun _ h => h) (fun u H1 _ hu h1 => ⟨(nI 115, on, tw), ⟨by rw [hc], fun z => absurd z (by omega)⟩, h1⟩)
    · exact metMapV (c_X9_readCommand_s120 mh m1 m2 m3 m4 m5 ss hi sl tx ne th kn ke le sp si on tw dn htx hle hi8 hc hP0 hB0) (fun _ h => h) (fun u H1 _ hu h1 => ⟨(nI 120, on, tw), ⟨by rw [hc], fun z => absurd z (by omega)⟩, h1⟩)
  · have e : ceP tx le sp = s2P tx le sp + nlN tx le (s2P tx le sp) := by unfold ceP; rw [if_pos hp]
    rw [e]
    exact metMapV (c_X9_readCommand_p mh m1 m2 m3 m4 m5 ss hi sl tx ne th kn ke le sp si on tw dn htx hle hi8 hp hd1 hm hd2 hP0 hB0) (fun _ h => h) (fun u H1 _ hu h1 => ⟨(nI 112, nI (nvN tx le (sp + 1)), nI (nvN tx le (s2P tx le sp))), ⟨by rw [hp], fun _ => ⟨rfl, rfl⟩⟩, h1⟩)

set_option maxHeartbeats 4000000 in
set_option maxRecDepth 100000 in
theorem c_rc_bad {l : Launch} {G : GT} {H0 : Heap} (mh m1 m2 m3 m4 m5 : Nat) (ss hi sl : Nat → Int) (tx : Nat → Nat) (ne : Nat → Int) (th : Int32) (kn ke le sp : Nat) (si on tw dn : Int32) (htx : T128 tx) (hle : le ≤ 80) (hsb : sp ≤ 80) (hw : ¬ WC tx le sp) (hP0 : PP G ([(mh, .inr (8, [.int (th), .ref m1, .ref m2, .int (nI (kn)), .ref m3, .int (nI (ke)), .ref m4, .int (nI (le)), .ref m5, .int (nI (sp)), .int (nI (0)), .int (si), .int (on), .int (tw), .int (dn)])), (m1, .inl (cI G, 205, .inl (fun z9 => iI (ss z9)))), (m2, .inl (cI G, 1230, .inl (fun z9 => iI (hi z9)))), (m3, .inl (cI G, 410, .inl (fun z9 => iI (sl z9)))), (m4, .inl (cI G, 80, .inl (fun z9 => nI (tx z9)))), (m5, .inl (cI G, 128, .inl (fun z9 => iI (ne z9))))]) H0) (hB0 : va_D (lo G) ([(mh, .inr (8, [.int (th), .ref m1, .ref m2, .int (nI (kn)), .ref m3, .int (nI (ke)), .ref m4, .int (nI (le)), .ref m5, .int (nI (sp)), .int (nI (0)), .int (si), .int (on), .int (tw), .int (dn)])), (m1, .inl (cI G, 205, .inl (fun z9 => iI (ss z9)))), (m2, .inl (cI G, 1230, .inl (fun z9 => iI (hi z9)))), (m3, .inl (cI G, 410, .inl (fun z9 => iI (sl z9)))), (m4, .inl (cI G, 80, .inl (fun z9 => nI (tx z9)))), (m5, .inl (cI G, 128, .inl (fun z9 => iI (ne z9))))])) : Met l yX9_readCommand wsX9_readCommand ({ frames := 3, cells := 0, slots := 0, locals := 67 } : Room) (pcG G [.ref mh] H0) (qMv G (fun (u : Int32 × Int32 × Int32) => True) (fun (u : Int32 × Int32 × Int32) => [(mh, .inr (8, [.int (th), .ref m1, .ref m2, .int (nI (kn)), .ref m3, .int (nI (ke)), .ref m4, .int (nI (le)), .ref m5, .int (nI (erP tx le sp)), .int (nI (1)), .int (u.1), .int (u.2.1), .int (u.2.2), .int (dn)])), (m1, .inl (cI G, 205, .inl (fun z9 => iI (ss z9)))), (m2, .inl (cI G, 1230, .inl (fun z9 => iI (hi z9)))), (m3, .inl (cI G, 410, .inl (fun z9 => iI (sl z9)))), (m4, .inl (cI G, 80, .inl (fun z9 => nI (tx z9)))), (m5, .inl (cI G, 128, .inl (fun z9 => iI (ne z9))))]) ([(mh, .inr (8, [.int (th), .ref m1, .ref m2, .int (nI (kn)), .ref m3, .int (nI (ke)), .ref m4, .int (nI (le)), .ref m5, .int (nI (sp)), .int (nI (0)), .int (si), .int (on), .int (tw), .int (dn)])), (m1, .inl (cI G, 205, .inl (fun z9 => iI (ss z9)))), (m2, .inl (cI G, 1230, .inl (fun z9 => iI (hi z9)))), (m3, .inl (cI G, 410, .inl (fun z9 => iI (sl z9)))), (m4, .inl (cI G, 80, .inl (fun z9 => nI (tx z9)))), (m5, .inl (cI G, 128, .inl (fun z9 => iI (ne z9))))]) H0) 0 0 (va_A ([(mh, .inr (8, [.int (th), .ref m1, .ref m2, .int (nI (kn)), .ref m3, .int (nI (ke)), .ref m4, .int (nI (le)), .ref m5, .int (nI (sp)), .int (nI (0)), .int (si), .int (on), .int (tw), .int (dn)])), (m1, .inl (cI G, 205, .inl (fun z9 => iI (ss z9)))), (m2, .inl (cI G, 1230, .inl (fun z9 => iI (hi z9)))), (m3, .inl (cI G, 410, .inl (fun z9 => iI (sl z9)))), (m4, .inl (cI G, 80, .inl (fun z9 => nI (tx z9)))), (m5, .inl (cI G, 128, .inl (fun z9 => iI (ne z9))))]) H0.size) := by
  by_cases c1 : sp < le ∧ (isSh (tx sp) ∨ tx sp = 112)
  · have cs : ¬ isSh (tx sp) := fun z => hw ⟨c1.1, Or.inl z⟩
    have hp : tx sp = 112 := c1.2.resolve_left cs
    by_cases c2 : sp + 1 < le ∧ isDg (tx (sp + 1))
    · by_cases c3 : mkP tx le sp < le ∧ tx (mkP tx le sp) = 61
      · have c4 : ¬ (s2P tx le sp < le ∧ isDg (tx (s2P tx le sp))) := fun z => hw ⟨c1.1, Or.inr ⟨hp, c2, c3, z⟩⟩
        have e : erP tx le sp = s2P tx le sp := by unfold erP; rw [if_neg (fun z => z c1), if_neg (fun z => z c2), if_neg (fun z => z c3)]
        rw [e]
        exact metMapV (c_X9_readCommand_p3 mh m1 m2 m3 m4 m5 ss hi sl tx ne th kn ke le sp si on tw dn htx hle c1.1 hp c2 c3 c4 hP0 hB0) (fun _ h => h) (fun u H1 _ hu h1 => ⟨(nI 112, nI (nvN tx le (sp + 1)), nI 0), trivial, h1⟩)
      · have e : erP tx le sp = mkP tx le sp := by unfold erP; rw [if_neg (fun z => z c1), if_neg (fun z => z c2), if_pos c3]
        rw [e]
        exact metMapV (c_X9_readCommand_p2 mh m1 m2 m3 m4 m5 ss hi sl tx ne th kn ke le sp si on tw dn htx hle c1.1 hp c2 c3 hP0 hB0) (fun _ h => h) (fun u H1 _ hu h1 => ⟨(nI 112, nI (nvN tx le (sp + 1)), nI 0), trivial, h1⟩)
    · have e : erP tx le sp = sp + 1 := by unfold erP; rw [if_neg (fun z => z c1), if_pos c2]
      rw [e]
      exact metMapV (c_X9_readCommand_p1 mh m1 m2 m3 m4 m5 ss hi sl tx ne th kn ke le sp si on tw dn htx hle c1.1 hp c2 hP0 hB0) (fun _ h => h) (fun u H1 _ hu h1 => ⟨(nI 112, nI 0, nI 0), trivial, h1⟩)
  · have e : erP tx le sp = sp := by unfold erP; rw [if_pos c1]
    rw [e]
    by_cases c5 : sp < le
    · have hne : ¬ (tx sp = 112 ∨ tx sp = 117 ∨ tx sp = 100 ∨ tx sp = 108 ∨ tx sp = 114 ∨ tx sp = 115 ∨ tx sp = 120) := fun z => c1 ⟨c5, z.elim Or.inr Or.inl⟩
      exact metMapV (c_X9_readCommand_e2 mh m1 m2 m3 m4 m5 ss hi sl tx ne th kn ke le sp si on tw dn htx hle c5 hne hP0 hB0) (fun _ h => h) (fun u H1 _ hu h1 => ⟨(nI (tx sp), on, tw), trivial, h1⟩)
    · exact metMapV (c_X9_readCommand_e1 mh m1 m2 m3 m4 m5 ss hi sl tx ne th kn ke le sp si on tw dn htx hle hsb c5 hP0 hB0) (fun _ h => h) (fun u H1 _ hu h1 => ⟨(nI 0, on, tw), trivial, h1⟩)

set_option maxHeartbeats 4000000 in
set_option maxRecDepth 100000 in
theorem c_does {l : Launch} {G : GT} {H0 : Heap} (mh m1 m2 m3 m4 m5 : Nat) (ss hi sl : Nat → Int) (tx : Nat → Nat) (ne : Nat → Int) (th : Int32) (kn ke le : Nat) (sp wr si on tw dn : Int32) (i : Nat) (hMR : MR ss) (hw : WC tx le i) (hsi : si = nI (tx i)) (hpw : tx i = 112 → on = nI (nvN tx le (i + 1)) ∧ tw = nI (nvN tx le (s2P tx le i))) (hP0 : PP G ([(mh, .inr (8, [.int (th), .ref m1, .ref m2, .int (nI (kn)), .ref m3, .int (nI (ke)), .ref m4, .int (nI (le)), .ref m5, .int (sp), .int (wr), .int (si), .int (on), .int (tw), .int (dn)])), (m1, .inl (cI G, 205, .inl (fun z9 => iI (ss z9)))), (m2, .inl (cI G, 1230, .inl (fun z9 => iI (hi z9)))), (m3, .inl (cI G, 410, .inl (fun z9 => iI (sl z9)))), (m4, .inl (cI G, 80, .inl (fun z9 => nI (tx z9)))), (m5, .inl (cI G, 128, .inl (fun z9 => iI (ne z9))))]) H0) (hB0 : va_D (lo G) ([(mh, .inr (8, [.int (th), .ref m1, .ref m2, .int (nI (kn)), .ref m3, .int (nI (ke)), .ref m4, .int (nI (le)), .ref m5, .int (sp), .int (wr), .int (si), .int (on), .int (tw), .int (dn)])), (m1, .inl (cI G, 205, .inl (fun z9 => iI (ss z9)))), (m2, .inl (cI G, 1230, .inl (fun z9 => iI (hi z9)))), (m3, .inl (cI G, 410, .inl (fun z9 => iI (sl z9)))), (m4, .inl (cI G, 80, .inl (fun z9 => nI (tx z9)))), (m5, .inl (cI G, 128, .inl (fun z9 => iI (ne z9))))])) : Met l yX9_does wsX9_does ({ frames := 10, cells := 0, slots := 0, locals := 237 } : Room) (pcG G [.ref mh] H0) (qMi G (fun (r : Int32) (u : Nat → Int) => r = nI (exR tx le i ss)) (fun (u : Nat → Int) => [(mh, .inr (8, [.int (th), .ref m1, .ref m2, .int (nI (kn)), .ref m3, .int (nI (ke)), .ref m4, .int (nI (le)), .ref m5, .int (sp), .int (wr), .int (si), .int (on), .int (tw), .int (dn)])), (m1, .inl (cI G, 205, .inl (fun z9 => iI ((exS tx le i ss) z9)))), (m2, .inl (cI G, 1230, .inl (fun z9 => iI (hi z9)))), (m3, .inl (cI G, 410, .inl (fun z9 => iI (sl z9)))), (m4, .inl (cI G, 80, .inl (fun z9 => nI (tx z9)))), (m5, .inl (cI G, 128, .inl (fun z9 => iI (u z9))))]) ([(mh, .inr (8, [.int (th), .ref m1, .ref m2, .int (nI (kn)), .ref m3, .int (nI (ke)), .ref m4, .int (nI (le)), .ref m5, .int (sp), .int (wr), .int (si), .int (on), .int (tw), .int (dn)])), (m1, .inl (cI G, 205, .inl (fun z9 => iI (ss z9)))), (m2, .inl (cI G, 1230, .inl (fun z9 => iI (hi z9)))), (m3, .inl (cI G, 410, .inl (fun z9 => iI (sl z9)))), (m4, .inl (cI G, 80, .inl (fun z9 => nI (tx z9)))), (m5, .inl (cI G, 128, .inl (fun z9 => iI (ne z9))))]) H0) 0 0 (va_A ([(mh, .inr (8, [.int (th), .ref m1, .ref m2, .int (nI (kn)), .ref m3, .int (nI (ke)), .ref m4, .int (nI (le)), .ref m5, .int (sp), .int (wr), .int (si), .int (on), .int (tw), .int (dn)])), (m1, .inl (cI G, 205, .inl (fun z9 => iI (ss z9)))), (m2, .inl (cI G, 1230, .inl (fun z9 => iI (hi z9)))), (m3, .inl (cI G, 410, .inl (fun z9 => iI (sl z9)))), (m4, .inl (cI G, 80, .inl (fun z9 => nI (tx z9)))), (m5, .inl (cI G, 128, .inl (fun z9 => iI (ne z9))))]) H0.size) := by
  subst hsi
  obtain ⟨hi8, hw⟩ := hw
  rcases hw with hs | ⟨hp, hd1, hm, hd2⟩
  · have hs9 : tx i = 117 ∨ tx i = 100 ∨ tx i = 108 ∨ tx i = 114 ∨ tx i = 115 ∨ tx i = 120 := hs
    rcases hs9 with hc | hc | hc | hc | hc | hc
    · rw [hc] at hP0 hB0 ⊢
      have e : exF tx le i ss = some (scR ss 1 0) := by unfold exF; rw [if_neg (by omega), if_pos hc]
      obtain ⟨e1, e2⟩ := ex_some e
      rw [e1, e2]
      exact metMapI (c_X9_does_u mh m1 m2 m3 m4 m5 ss hi sl tx ne th kn ke le sp wr on tw dn hMR hP0 hB0) (fun _ h => h) (fun r u H1 _ hr h1 => ⟨neS ne ss 1 0 64, hr, h1⟩)
    · rw [hc] at hP0 hB0 ⊢
      have e : exF tx le i ss = some (scR ss (-1) 0) := by unfold exF; rw [if_neg (by omega), if_neg (by omega), if_pos hc]
      obtain ⟨e1, e2⟩ := ex_some e
      rw [e1, e2]
      exact metMapI (c_X9_does_d mh m1 m2 m3 m4 m5 ss hi sl tx ne th kn ke le sp wr on tw dn hMR hP0 hB0) (fun _ h => h) (fun r u H1 _ hr h1 => ⟨neS ne ss (-1) 0 64, hr, h1⟩)
    · rw [hc] at hP0 hB0 ⊢
      have e : exF tx le i ss = some (scR ss 0 1) := by unfold exF; rw [if_neg (by omega), if_neg (by omega), if_neg (by omega), if_pos hc]
      obtain ⟨e1, e2⟩ := ex_some e
      rw [e1, e2]
      exact metMapI (c_X9_does_l mh m1 m2 m3 m4 m5 ss hi sl tx ne th kn ke le sp wr on tw dn hMR hP0 hB0) (fun _ h => h) (fun r u H1 _ hr h1 => ⟨neS ne ss 0 1 64, hr, h1⟩)
    · rw [hc] at hP0 hB0 ⊢
      have e : exF tx le i ss = some (scR ss 0 (-1)) := by unfold exF; rw [if_neg (by omega), if_neg (by omega), if_neg (by omega), if_neg (by omega), if_pos hc]
      obtain ⟨e1, e2⟩ := ex_some e
      rw [e1, e2]
      exact metMapI (c_X9_does_r mh m1 m2 m3 m4 m5 ss hi sl tx ne th kn ke le sp wr on tw dn hMR hP0 hB0) (fun _ h => h) (fun r u H1 _ hr h1 => ⟨neS ne ss 0 (-1) 64, hr, h1⟩)
    · rw [hc] at hP0 hB0 ⊢
      by_cases hms : ss 194 < 999
      · have e : exF tx le i ss = some (sdX ss 0) := by unfold exF; rw [if_neg (by omega), if_neg (by omega), if_neg (by omega), if_neg (by omega), if_neg (by omega), if_pos hms, if_neg (by omega)]
        obtain ⟨e1, e2⟩ := ex_some e
        rw [e1, e2]
        by_cases hkey : (ss 194).toNat % (ss 193).toNat = 0
        · rw [show sdX ss 0 = sdR ss (dS ss) (dS ss) (fun _ => 0) (BEST (dS ss) (tS ss)) (264) 0 from if_pos hkey]
          exact metMapI (c_X9_does_sk0 mh m1 m2 m3 m4 m5 ss hi sl tx ne th kn ke le sp wr on tw dn hMR hkey hms hP0 hB0) (fun _ h => h) (fun r u H1 _ hr h1 => ⟨nxP (dS ss) (dS ss) ne 4, hr, h1⟩)
        · rw [show sdX ss 0 = sdR ss (nT (dS ss) (tS ss) (ss 192).toNat) (nG (dS ss) (tS ss) (rS ss) (ss 192).toNat) (knN (dS ss) (tS ss) (ss 192).toNat) (BEST (dS ss) (tS ss)) (ABM (dS ss) (tS ss) (COM (dS ss) (tS ss) (ss 192).toNat) 4) 0 from if_neg hkey]
          exact metMapI (c_X9_does_sn0 mh m1 m2 m3 m4 m5 ss hi sl tx ne th kn ke le sp wr on tw dn hMR hkey hms hP0 hB0) (fun _ h => h) (fun r u H1 _ hr h1 => ⟨nxP (nT (dS ss) (tS ss) (ss 192).toNat) (nG (dS ss) (tS ss) (rS ss) (ss 192).toNat) ne 4, hr, h1⟩)
      · have e : exF tx le i ss = none := by unfold exF; rw [if_neg (by omega), if_neg (by omega), if_neg (by omega), if_neg (by omega), if_neg (by omega), if_neg hms]
        obtain ⟨e1, e2⟩ := ex_none e
        rw [e1, e2]
        exact metMapI (c_X9_does_f0 mh m1 m2 m3 m4 m5 ss hi sl tx ne th kn ke le sp wr on tw dn hMR hms hP0 hB0) (fun _ h => h) (fun r u H1 _ hr h1 => ⟨ne, hr, h1⟩)
    · rw [hc] at hP0 hB0 ⊢
      by_cases hms : ss 194 < 999
      · have e : exF tx le i ss = some (sdX ss 1) := by unfold exF; rw [if_neg (by omega), if_neg (by omega), if_neg (by omega), if_neg (by omega), if_neg (by omega), if_pos hms, if_pos hc]
        obtain ⟨e1, e2⟩ := ex_some e
        rw [e1, e2]
        by_cases hkey : (ss 194).toNat % (ss 193).toNat = 0
        · rw [show sdX ss 1 = sdR ss (dS ss) (dS ss) (fun _ => 0) (BEST (dS ss) (tS ss)) (264) 1 from if_pos hkey]
          exact metMapI (c_X9_does_sk1 mh m1 m2 m3 m4 m5 ss hi sl tx ne th kn ke le sp wr on tw dn hMR hkey hms hP0 hB0) (fun _ h => h) (fun r u H1 _ hr h1 => ⟨nxP (dS ss) (dS ss) ne 4, hr, h1⟩)
        · rw [show sdX ss 1 = sdR ss (nT (dS ss) (tS ss) (ss 192).toNat) (nG (dS ss) (tS ss) (rS ss) (ss 192).toNat) (knN (dS ss) (tS ss) (ss 192).toNat) (BEST (dS ss) (tS ss)) (ABM (dS ss) (tS ss) (COM (dS ss) (tS ss) (ss 192).toNat) 4) 1 from if_neg hkey]
          exact metMapI (c_X9_does_sn1 mh m1 m2 m3 m4 m5 ss hi sl tx ne th kn ke le sp wr on tw dn hMR hkey hms hP0 hB0) (fun _ h => h) (fun r u H1 _ hr h1 => ⟨nxP (nT (dS ss) (tS ss) (ss 192).toNat) (nG (dS ss) (tS ss) (rS ss) (ss 192).toNat) ne 4, hr, h1⟩)
      · have e : exF tx le i ss = none := by unfold exF; rw [if_neg (by omega), if_neg (by omega), if_neg (by omega), if_neg (by omega), if_neg (by omega), if_neg hms]
        obtain ⟨e1, e2⟩ := ex_none e
        rw [e1, e2]
        exact metMapI (c_X9_does_f1 mh m1 m2 m3 m4 m5 ss hi sl tx ne th kn ke le sp wr on tw dn hMR hms hP0 hB0) (fun _ h => h) (fun r u H1 _ hr h1 => ⟨ne, hr, h1⟩)
  · obtain ⟨g1, g2⟩ := hpw hp
    rw [hp, g1, g2] at hP0 hB0 ⊢
    have q1 := nv_le (ln := le) hd1.2
    have q2 := nv_le (ln := le) hd2.2
    by_cases hok : nvN tx le (i + 1) < 64 ∧ nvN tx le (s2P tx le i) ≤ 15
    · have e : exF tx le i ss = some (va_up ss (nvN tx le (i + 1)) ((nvN tx le (s2P tx le i) : Nat) : Int)) := by unfold exF; rw [if_pos hp, if_pos hok]
      obtain ⟨e1, e2⟩ := ex_some e
      rw [e1, e2]
      exact metMapI (c_X9_does_p1 mh m1 m2 m3 m4 m5 ss hi sl tx ne th kn ke le sp wr  dn (nvN tx le (i + 1)) (nvN tx le (s2P tx le i)) ⟨q1, q2⟩ hok hP0 hB0) (fun _ h => h) (fun r u H1 _ hr h1 => ⟨ne, hr, h1⟩)
    · have e : exF tx le i ss = none := by unfold exF; rw [if_pos hp, if_neg hok]
      obtain ⟨e1, e2⟩ := ex_none e
      rw [e1, e2]
      exact metMapI (c_X9_does_p0 mh m1 m2 m3 m4 m5 ss hi sl tx ne th kn ke le sp wr  dn (nvN tx le (i + 1)) (nvN tx le (s2P tx le i)) ⟨q1, q2⟩ hok hP0 hB0) (fun _ h => h) (fun r u H1 _ hr h1 => ⟨ne, hr, h1⟩)

theorem MR_up {s : Nat → Int} (h : MR s) {p : Nat} (hp : p < 192) {v : Int} (h0 : 0 ≤ v) (h1 : v ≤ 15) : MR (va_up s p v) := by
  obtain ⟨g1, g2, g3, g4, g5, g6⟩ := h
  have ne : ∀ j, 192 ≤ j → va_up s p v j = s j := fun j hj => va_up_ne _ _ (by omega)
  refine ⟨fun j hj => ?_, ?_, ?_, ?_, ?_, ?_⟩
  · by_cases e : j = p
    · subst e; rw [va_up_self]; exact ⟨h0, h1⟩
    · rw [va_up_ne _ _ e]; exact g1 j hj
  · rw [ne 192 (by omega)]; exact g2
  · rw [ne 193 (by omega)]; exact g3
  · rw [ne 194 (by omega)]; exact g4
  · rw [ne 194 (by omega), ne 195 (by omega)]; exact g5
  · rw [ne 194 (by omega), ne 196 (by omega)]; exact g6
theorem tkm_hi {s : Nat → Int} (dy dx : Int) {j : Nat} (hj : 64 ≤ j) : ∀ k, k ≤ 64 → (tkm s dy dx s k).1 j = s j
  | 0, _ => rfl
  | k + 1, hk => by
    show va_up (tkm s dy dx s k).1 k _ j = _
    rw [va_up_ne _ _ (by omega)]; exact tkm_hi dy dx hj k (by omega)
theorem MR_sc {s : Nat → Int} (h : MR s) (dy dx : Int) : MR (scR s dy dx) := by
  have e : ∀ j, 64 ≤ j → scR s dy dx j = s j := fun j hj => tkm_hi dy dx hj 64 (Nat.le_refl 64)
  have g := h
  obtain ⟨g1, g2, g3, g4, g5, g6⟩ := h
  refine ⟨fun j hj => tkm_M g dy dx 64 j hj, ?_, ?_, ?_, ?_, ?_⟩
  · rw [e 192 (by omega)]; exact g2
  · rw [e 193 (by omega)]; exact g3
  · rw [e 194 (by omega)]; exact g4
  · rw [e 194 (by omega), e 195 (by omega)]; exact g5
  · rw [e 194 (by omega), e 196 (by omega)]; exact g6
theorem MR_sdR {s T Gv : Nat → Int} {kd mv : Nat → Nat} {sum lost : Nat} (h : MR s) (hT : R15 T) (hG : R15 Gv) (hs : sum ≤ 264) (hl : lost ≤ 1) (hm : s 194 < 999) : MR (sdR s T Gv kd mv sum lost) := by
  obtain ⟨g1, g2, g3, g4, g5, g6⟩ := h
  have e2 : sdR s T Gv kd mv sum lost 192 = s 192 := rfl
  have e3 : sdR s T Gv kd mv sum lost 193 = s 193 := rfl
  have e4 : sdR s T Gv kd mv sum lost 194 = s 194 + 1 := rfl
  have e5 : sdR s T Gv kd mv sum lost 195 = s 195 + (lost : Int) := rfl
  have e6 : sdR s T Gv kd mv sum lost 196 = s 196 + (sum : Int) := rfl
  refine ⟨fun j hj => ?_, ?_, ?_, ?_, ?_, ?_⟩
  · unfold sdR
    split
    · exact g1 j hj
    · split
      · exact hT _
      · split
        · exact g1 j hj
        · exact hG _
  · rw [e2]; exact g2
  · rw [e3]; exact g3
  · rw [e4]; omega
  · rw [e4, e5]; omega
  · rw [e4, e6]; omega
theorem MR_sd {s : Nat → Int} (h : MR s) {lost : Nat} (hl : lost ≤ 1) (hm : s 194 < 999) : MR (sdX s lost) := by
  have hd := MR_d h
  have ht := MR_t h
  unfold sdX
  split
  · exact MR_sdR h hd hd (Nat.le_refl _) hl hm
  · exact MR_sdR h (nT_R hd ht _) (nG_R hd _) (ABM_le _ _ _ 4) hl hm
theorem MR_ex {tn : Nat → Nat} {ln i : Nat} {ss : Nat → Int} (h : MR ss) : MR (exS tn ln i ss) := by
  cases e : exF tn ln i ss with
  | none => rw [(ex_none e).2]; exact h
  | some s' =>
    rw [(ex_some e).2]
    unfold exF at e
    split at e
    · split at e
      · rename_i c
        cases e
        exact MR_up h (by omega) (by omega) (by omega)
      · cases e
    · split at e
      · cases e; exact MR_sc h _ _
      · split at e
        · cases e; exact MR_sc h _ _
        · split at e
          · cases e; exact MR_sc h _ _
          · split at e
            · cases e; exact MR_sc h _ _
            · split at e
              · rename_i c
                cases e
                exact MR_sd h (by split <;> omega) c
              · cases e
theorem rC_f {tn : Nat → Nat} {ln n i : Nat} {ss : Nat → Int} {dn : Nat} (h : exR tn ln i ss = 0) : rC tn ln n i ss dn = (exS tn ln i ss, dn) := by
  have e : exS tn ln i ss = ss := by
    cases e : exF tn ln i ss with
    | none => exact (ex_none e).2
    | some s' => rw [(ex_some e).1] at h; cases h
  rw [e]
  cases n with
  | zero => rfl
  | succ n => exact if_pos h
theorem rC_s {tn : Nat → Nat} {ln n i : Nat} {ss : Nat → Int} {dn : Nat} (h : ¬ exR tn ln i ss = 0) (hn : 0 < n) : rC tn ln n i ss dn = if ceP tn ln i < ln then rC tn ln (n - 1) (ceP tn ln i + 1) (exS tn ln i ss) (dn + 1) else (exS tn ln i ss, dn + 1) := by
  cases n with
  | zero => omega
  | succ n => exact if_neg h
theorem er_ne (n : Nat) : ¬ (n : Int) = -1 := by omega
