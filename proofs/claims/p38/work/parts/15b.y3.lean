/-! ===== the object without its history and its slots ===== -/
def y3W (G : GT) (a : Nat → Nat) (v : SVT) (mo ki : Nat → Nat) (pr df : Nat → Int) (co : Int32) (bi : Nat) (g9 : Nat → Int32) (lr : Nat) (bf : Nat → Int) (tn : Nat → Nat) (ln : Nat) : va_W :=
  xoW a ++ (stW G (a 1) (a 2) (a 3) (a 4) (a 5) (a 6) (a 7) (a 8) (a 9) v ++ mdW G a mo ki pr df co bi g9 lr bf tn ln)
theorem xW_y3 (G : GT) (a : Nat → Nat) (v : SVT) (mo ki : Nat → Nat) (pr df : Nat → Int) (co : Int32) (bi : Nat) (g9 : Nat → Int32) (lr : Nat) (bf : Nat → Int) (tn : Nat → Nat) (ln : Nat) (nx ct : Nat) (hv : Nat → SVT) (v0 : SVT) (k0 : Nat) (v1 : SVT) (k1 : Nat) :
    xW G a v mo ki pr df co bi g9 lr bf tn ln nx ct hv v0 k0 v1 k1 = y3W G a v mo ki pr df co bi g9 lr bf tn ln ++ (hsW G a nx ct hv ++ rrW G a v0 k0 v1 k1) := by
  simp only [xW, y3W, List.append_assoc]
theorem pre_P {G : GT} {H : Heap} {w P : va_W} (h : PP G (w ++ P) H) : PP G w H := va_P_mem.mpr fun q hq => va_P_mem.mp h q (List.mem_append_left _ hq)
theorem pre_D {A : Nat → Prop} {w P : va_W} (h : va_D A (w ++ P)) : va_D A w := by
  have h2 := bC_D (l := [(true, w, w), (false, P, [])]) h
  simpa [bC] using h2
section MYP
variable {p : Program} {l : Launch} {e : Env} {R : Room} {s : State} {m : MethodId} {args : Array Value} {below : List Frame} {meth : Method} {c : Code} {H : Heap} {locs : List Loc} {cells slots : Nat} {Q : State → Prop}
variable {cc : ByteArray} {pc : Nat} {ls : Array Slot} {rest st0 : List Value} {a : Array Value} {A0 A1 : Nat → Prop} {H0 : Heap} {mc ms : Nat} {G : GT}
/-- a call with the first block of the world -/
theorem kPreV {S : Type} {post : S → Prop} {w1 : S → va_W} {wc P : va_W} (hr : va_Run p l e R s m args below meth c H locs cells slots mc ms (F0 m pc ls st0) rest (qMv G post w1 wc H a) (va_A wc H.size)) (hP : PP G (wc ++ P) H) (hD : va_D A0 (wc ++ P)) (hS : va_S A0 H0 H locs) (hA : ∀ q, H0.size ≤ q → A0 q)
    (hf : ∀ u, (w1 u).map Prod.fst = wc.map Prod.fst)
    (kk : ∀ (u : S) (H1 : Heap) (locs1 : List Loc), post u → PP G (w1 u ++ P) H1 → va_D A0 (w1 u ++ P) → va_S A0 H0 H1 locs1 → W p l e R s m args below meth c H1 locs1 (cells + mc) (slots + ms) Q (F0 m (pc + 3) ls rest)) : W p l e R s m args below meth c H locs cells slots Q (F0 m pc ls st0) := by
  refine kFv (fun u => [(true, wc, w1 u), (false, P, [])]) [(true, wc, wc), (false, P, [])] hr hP hD hS hA (fun _ => rfl) (fun _ => rfl) (fun u b hb h => ?_) (fun q hq => ?_) (fun u q hq => ?_) (fun u H1 locs1 hu hP1 hD1 hS1 => kk u H1 locs1 hu hP1 hD1 hS1)
  · simp only [List.mem_cons, List.not_mem_nil, or_false] at hb
    rcases hb with rfl | rfl
    · exact hf u
    · cases h
  · simpa [bC] using hq
  · simpa [bC1] using hq
theorem kPreI {S : Type} {post : Int32 → S → Prop} {w1 : S → va_W} {wc P : va_W} (hr : va_Run p l e R s m args below meth c H locs cells slots mc ms (F0 m pc ls st0) rest (qMi G post w1 wc H a) (va_A wc H.size)) (hP : PP G (wc ++ P) H) (hD : va_D A0 (wc ++ P)) (hS : va_S A0 H0 H locs) (hA : ∀ q, H0.size ≤ q → A0 q)
    (hf : ∀ u, (w1 u).map Prod.fst = wc.map Prod.fst)
    (kk : ∀ (r : Int32) (u : S) (H1 : Heap) (locs1 : List Loc), post r u → PP G (w1 u ++ P) H1 → va_D A0 (w1 u ++ P) → va_S A0 H0 H1 locs1 → W p l e R s m args below meth c H1 locs1 (cells + mc) (slots + ms) Q (F0 m (pc + 3) ls (.int r :: rest))) : W p l e R s m args below meth c H locs cells slots Q (F0 m pc ls st0) := by
  refine kFi (fun u => [(true, wc, w1 u), (false, P, [])]) [(true, wc, wc), (false, P, [])] hr hP hD hS hA (fun _ => rfl) (fun _ => rfl) (fun u b hb h => ?_) (fun q hq => ?_) (fun u q hq => ?_) (fun r u H1 locs1 hu hP1 hD1 hS1 => kk r u H1 locs1 hu hP1 hD1 hS1)
  · simp only [List.mem_cons, List.not_mem_nil, or_false] at hb
    rcases hb with rfl | rfl
    · exact hf u
    · cases h
  · simpa [bC] using hq
  · simpa [bC1] using hq
end MYP
