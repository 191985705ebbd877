/-! ===== calls over blocks of a world ===== -/
def bOld : List (Bool × va_W × va_W) → va_W
  | [] => []
  | [b] => b.2.1
  | b :: c :: l => b.2.1 ++ bOld (c :: l)
def bNew : List (Bool × va_W × va_W) → va_W
  | [] => []
  | [b] => cond b.1 b.2.2 b.2.1
  | b :: c :: l => (cond b.1 b.2.2 b.2.1) ++ bNew (c :: l)
def bC : List (Bool × va_W × va_W) → va_W
  | [] => []
  | b :: l => (cond b.1 b.2.1 []) ++ bC l
def bC1 : List (Bool × va_W × va_W) → va_W
  | [] => []
  | b :: l => (cond b.1 b.2.2 []) ++ bC1 l
theorem bOld_cons (b : Bool × va_W × va_W) (l : List (Bool × va_W × va_W)) : bOld (b :: l) = b.2.1 ++ bOld l := by
  cases l with
  | nil => simp [bOld]
  | cons c l => rfl
theorem bNew_cons (b : Bool × va_W × va_W) (l : List (Bool × va_W × va_W)) : bNew (b :: l) = (cond b.1 b.2.2 b.2.1) ++ bNew l := by
  cases l with
  | nil => simp [bNew]
  | cons c l => rfl
theorem bNew_fst : ∀ (l : List (Bool × va_W × va_W)), (∀ b ∈ l, b.1 = true → b.2.2.map Prod.fst = b.2.1.map Prod.fst) → (bNew l).map Prod.fst = (bOld l).map Prod.fst
  | [], _ => rfl
  | b :: l, h => by
    rw [bOld_cons, bNew_cons, List.map_append, List.map_append, bNew_fst l (fun c hc => h c (List.mem_cons_of_mem _ hc))]
    congr 1
    cases hb : b.1
    · rfl
    · exact h b List.mem_cons_self hb
/-- distinct addresses, said by the addresses alone -/
theorem va_D_nodup {A : Nat → Prop} {ws : va_W} (h : va_D A ws) : (ws.map Prod.fst).Nodup := by
  rw [List.nodup_iff_pairwise_ne, List.pairwise_iff_getElem]
  intro i j hi hj hij e
  simp only [List.length_map] at hi hj
  simp only [List.getElem_map] at e
  have := h.1 i j ws[i] ws[j] (List.getElem?_eq_getElem hi) (List.getElem?_eq_getElem hj) e
  omega
theorem bNew_mem : ∀ (l : List (Bool × va_W × va_W)) (q : Nat × va_E), ((bOld l).map Prod.fst).Nodup → (∀ b ∈ l, b.1 = true → b.2.2.map Prod.fst = b.2.1.map Prod.fst) → q ∈ bNew l → q ∈ bC1 l ∨ (q ∈ bOld l ∧ ∀ c ∈ bC l, c.1 ≠ q.1)
  | [], q, _, _, h => by simp [bNew] at h
  | b :: l, q, hn, hf, h => by
    rw [bNew_cons, List.mem_append] at h
    rw [bOld_cons, List.map_append, List.nodup_append] at hn
    obtain ⟨n1, n2, n3⟩ := hn
    have sub : ∀ (l : List (Bool × va_W × va_W)) (c : Nat × va_E), c ∈ bC l → c ∈ bOld l := by
      intro l
      induction l with
      | nil => intro c hc; simp [bC] at hc
      | cons d l ih =>
        intro c hc
        rw [bOld_cons]
        simp only [bC, List.mem_append] at hc
        rcases hc with hc | hc
        · cases hd : d.1 <;> simp [hd] at hc
          exact List.mem_append_left _ hc
        · exact List.mem_append_right _ (ih c hc)
    rcases h with h | h
    · cases hb : b.1
      · rw [hb] at h
        refine Or.inr ⟨by rw [bOld_cons]; exact List.mem_append_left _ h, fun c hc e => ?_⟩
        simp only [bC, hb, List.mem_append, cond_false, List.not_mem_nil, false_or] at hc
        exact n3 q.1 (List.mem_map_of_mem h) c.1 (List.mem_map_of_mem (sub l c hc)) e.symm
      · rw [hb] at h
        exact Or.inl (by simp only [bC1, hb, List.mem_append]; exact Or.inl h)
    · rcases bNew_mem l q n2 (fun c hc => hf c (List.mem_cons_of_mem _ hc)) h with z | ⟨z1, z2⟩
      · exact Or.inl (by simp only [bC1, List.mem_append]; exact Or.inr z)
      · refine Or.inr ⟨by rw [bOld_cons]; exact List.mem_append_right _ z1, fun c hc e => ?_⟩
        simp only [bC, List.mem_append] at hc
        rcases hc with hc | hc
        · cases hb : b.1 <;> simp [hb] at hc
          exact n3 c.1 (List.mem_map_of_mem hc) q.1 (List.mem_map_of_mem z1) e
        · exact z2 c hc e
theorem va_P_mem {D : va_G} {cl : List vw_C} {ws : va_W} {H : Heap} : va_P D cl ws H ↔ ∀ q ∈ ws, va_at D cl q H := by
  constructor
  · intro h q hq
    obtain ⟨k, hk⟩ := List.mem_iff_getElem?.mp hq
    exact h k q hk
  · intro h k q hk
    exact h q (List.mem_of_getElem? hk)
theorem zmF {A0 : Nat → Prop} {D : va_G} {cl : List vw_C} {wc w1 : va_W} {H H1 : Heap} (l : List (Bool × va_W × va_W)) (hP : va_P D cl (bOld l) H) (hD : va_D A0 (bOld l)) (hf : ∀ b ∈ l, b.1 = true → b.2.2.map Prod.fst = b.2.1.map Prod.fst)
    (hc : ∀ q, q ∈ wc → q ∈ bC l) (h1 : ∀ q, q ∈ bC1 l → q ∈ w1) (hk : ∀ q : Nat, q < H.size → ¬ va_A wc H.size q → H1[q]? = H[q]?) (hP1 : va_P D cl w1 H1) : va_P D cl (bNew l) H1 ∧ va_D A0 (bNew l) := by
  refine ⟨va_P_mem.mpr fun q hq => ?_, hD.fst (bNew_fst l hf)⟩
  rcases bNew_mem l q (va_D_nodup hD) hf hq with h | ⟨h, h2⟩
  · exact va_P_mem.mp hP1 q (h1 q h)
  · have h3 := va_P_mem.mp hP q h
    refine h3.kept (hk q.1 h3.lt ?_)
    rintro (⟨k, e, he⟩ | hz)
    · exact h2 _ (hc _ (List.mem_of_getElem? he)) rfl
    · exact absurd h3.lt (Nat.not_lt.mpr hz)
theorem bC_sub (l : List (Bool × va_W × va_W)) : ∀ q, q ∈ bC l → q ∈ bOld l := by
  induction l with
  | nil => intro q h; simp [bC] at h
  | cons d l ih =>
    intro c hc
    rw [bOld_cons]
    simp only [bC, List.mem_append] at hc
    rcases hc with hc | hc
    · cases hd : d.1 <;> simp [hd] at hc
      exact List.mem_append_left _ hc
    · exact List.mem_append_right _ (ih c hc)
/-- the callee's world out of the caller's -/
theorem bC_P {G : GT} {H : Heap} {wc : va_W} (l : List (Bool × va_W × va_W)) (hP : PP G (bOld l) H) (hc : ∀ q, q ∈ wc → q ∈ bC l) : PP G wc H := va_P_mem.mpr fun q hq => va_P_mem.mp hP q (bC_sub l q (hc q hq))
theorem va_D_of {A : Nat → Prop} {ws : va_W} (hn : (ws.map Prod.fst).Nodup) (hA : ∀ q ∈ ws, A q.1) : va_D A ws := by
  refine ⟨fun i j p q hi hj e => ?_, fun k q hk => hA q (List.mem_of_getElem? hk)⟩
  have hi' : (ws.map Prod.fst)[i]? = some p.1 := by rw [List.getElem?_map, hi]; rfl
  have hj' : (ws.map Prod.fst)[j]? = some p.1 := by rw [List.getElem?_map, hj, e]; rfl
  have li := (List.getElem?_eq_some_iff.mp hi').1
  rw [← hj'] at hi'
  exact (List.getElem?_inj li hn).mp hi'
theorem bC_nodup : ∀ (l : List (Bool × va_W × va_W)), ((bOld l).map Prod.fst).Nodup → ((bC l).map Prod.fst).Nodup
  | [], _ => by simp [bC]
  | b :: l, h => by
    rw [bOld_cons, List.map_append, List.nodup_append] at h
    obtain ⟨n1, n2, n3⟩ := h
    show (((cond b.1 b.2.1 []) ++ bC l).map Prod.fst).Nodup
    rw [List.map_append, List.nodup_append]
    cases hb : b.1
    · exact ⟨by simp, bC_nodup l n2, by simp⟩
    · refine ⟨n1, bC_nodup l n2, fun x hx y hy => n3 x hx y ?_⟩
      obtain ⟨q, hq, rfl⟩ := List.mem_map.mp hy
      exact List.mem_map_of_mem (bC_sub l q hq)
theorem bC_D {A : Nat → Prop} {l : List (Bool × va_W × va_W)} (hD : va_D A (bOld l)) : va_D A (bC l) :=
  va_D_of (bC_nodup l (va_D_nodup hD)) (fun q hq => by
    obtain ⟨k, hk⟩ := List.mem_iff_getElem?.mp (bC_sub l q hq)
    exact hD.2 k q hk)
theorem va_D_swap {A : Nat → Prop} {w1 w2 : va_W} (h : va_D A (w1 ++ w2)) : va_D A (w2 ++ w1) := by
  refine va_D_of ?_ (fun q hq => ?_)
  · have := va_D_nodup h
    rw [List.map_append] at this ⊢
    exact (List.perm_append_comm.nodup_iff).mp this
  · obtain ⟨k, hk⟩ := List.mem_iff_getElem?.mp (show q ∈ w1 ++ w2 from List.mem_append.mpr ((List.mem_append.mp hq).symm))
    exact h.2 k q hk
section MYB
variable {p : Program} {l : Launch} {e : Env} {R : Room} {s : State} {m : MethodId} {args : Array Value} {below : List Frame} {meth : Method} {c : Code} {H : Heap} {locs : List Loc} {cells slots : Nat} {Q : State → Prop}
variable {cc : ByteArray} {pc : Nat} {ls : Array Slot} {rest st0 : List Value} {a : Array Value} {A0 A1 : Nat → Prop} {H0 : Heap} {mc ms : Nat} {G : GT}
theorem kFv {S : Type} {post : S → Prop} {w1 : S → va_W} {wc : va_W} (L : S → List (Bool × va_W × va_W)) (L0 : List (Bool × va_W × va_W)) (hr : va_Run p l e R s m args below meth c H locs cells slots mc ms (F0 m pc ls st0) rest (qMv G post w1 wc H a) (va_A wc H.size)) (hP : PP G (bOld L0) H) (hD : va_D A0 (bOld L0)) (hS : va_S A0 H0 H locs) (hA : ∀ q, H0.size ≤ q → A0 q)
    (hL : ∀ u, bOld (L u) = bOld L0) (hC : ∀ u, bC (L u) = bC L0) (hf : ∀ u, ∀ b ∈ L u, b.1 = true → b.2.2.map Prod.fst = b.2.1.map Prod.fst) (hc : ∀ q, q ∈ wc → q ∈ bC L0) (h1 : ∀ u q, q ∈ bC1 (L u) → q ∈ w1 u)
    (kk : ∀ (u : S) (H1 : Heap) (locs1 : List Loc), post u → PP G (bNew (L u)) H1 → va_D A0 (bNew (L u)) → va_S A0 H0 H1 locs1 → W p l e R s m args below meth c H1 locs1 (cells + mc) (slots + ms) Q (F0 m (pc + 3) ls rest)) : W p l e R s m args below meth c H locs cells slots Q (F0 m pc ls st0) := by
  have hFc : ∀ q, va_A wc H.size q → A0 q := by
    rintro q (⟨k, e9, he⟩ | hz)
    · obtain ⟨k2, hk2⟩ := List.mem_iff_getElem?.mp (bC_sub L0 _ (hc _ (List.mem_of_getElem? he)))
      exact hD.2 k2 _ hk2
    · exact hA q (Nat.le_trans hS.1 hz)
  refine va_callv hr hS (fun q _ h => hFc q h) hFc (fun u t H1 locs1 ht _ hr hB _ hk hS1 => ?_)
  rw [ht] at hB
  obtain ⟨h2, h3⟩ := zmF (L u) (by rw [hL u]; exact hP) (by rw [hL u]; exact hD) (hf u) (fun q hq => by rw [hC u]; exact hc q hq) (h1 u) hk hB
  exact kk u H1 locs1 hr h2 h3 hS1
theorem kFi {S : Type} {post : Int32 → S → Prop} {w1 : S → va_W} {wc : va_W} (L : S → List (Bool × va_W × va_W)) (L0 : List (Bool × va_W × va_W)) (hr : va_Run p l e R s m args below meth c H locs cells slots mc ms (F0 m pc ls st0) rest (qMi G post w1 wc H a) (va_A wc H.size)) (hP : PP G (bOld L0) H) (hD : va_D A0 (bOld L0)) (hS : va_S A0 H0 H locs) (hA : ∀ q, H0.size ≤ q → A0 q)
    (hL : ∀ u, bOld (L u) = bOld L0) (hC : ∀ u, bC (L u) = bC L0) (hf : ∀ u, ∀ b ∈ L u, b.1 = true → b.2.2.map Prod.fst = b.2.1.map Prod.fst) (hc : ∀ q, q ∈ wc → q ∈ bC L0) (h1 : ∀ u q, q ∈ bC1 (L u) → q ∈ w1 u)
    (kk : ∀ (r : Int32) (u : S) (H1 : Heap) (locs1 : List Loc), post r u → PP G (bNew (L u)) H1 → va_D A0 (bNew (L u)) → va_S A0 H0 H1 locs1 → W p l e R s m args below meth c H1 locs1 (cells + mc) (slots + ms) Q (F0 m (pc + 3) ls (.int r :: rest))) : W p l e R s m args below meth c H locs cells slots Q (F0 m pc ls st0) := by
  have hFc : ∀ q, va_A wc H.size q → A0 q := by
    rintro q (⟨k, e9, he⟩ | hz)
    · obtain ⟨k2, hk2⟩ := List.mem_iff_getElem?.mp (bC_sub L0 _ (hc _ (List.mem_of_getElem? he)))
      exact hD.2 k2 _ hk2
    · exact hA q (Nat.le_trans hS.1 hz)
  refine va_calli hr hS (fun q _ h => hFc q h) hFc (fun r u t H1 locs1 ht _ hr hB _ hk hS1 => ?_)
  rw [ht] at hB
  obtain ⟨h2, h3⟩ := zmF (L u) (by rw [hL u]; exact hP) (by rw [hL u]; exact hD) (hf u) (fun q hq => by rw [hC u]; exact hc q hq) (h1 u) hk hB
  exact kk r u H1 locs1 hr h2 h3 hS1
end MYB
section MYB2
variable {p : Program} {l : Launch} {e : Env} {R : Room} {s : State} {m : MethodId} {args : Array Value} {below : List Frame} {meth : Method} {c : Code} {H : Heap} {locs : List Loc} {cells slots : Nat} {Q : State → Prop}
variable {cc : ByteArray} {pc : Nat} {ls : Array Slot} {rest st0 : List Value} {a : Array Value} {A0 A1 : Nat → Prop} {H0 : Heap} {mc ms : Nat} {G : GT}
theorem f2_P {P1 B1 P2 B2 P3 : va_W} (hP : PP G (P1 ++ (B1 ++ (P2 ++ (B2 ++ P3)))) H) : PP G (B1 ++ B2) H := va_P_mem.mpr fun q hq => va_P_mem.mp hP q (by simp only [List.mem_append] at *; rcases hq with h | h <;> simp [h])
theorem f2_D {A : Nat → Prop} {P1 B1 P2 B2 P3 : va_W} (hD : va_D A (P1 ++ (B1 ++ (P2 ++ (B2 ++ P3))))) : va_D A (B1 ++ B2) := by
  have h := bC_D (l := [(false, P1, []), (true, B1, B1), (false, P2, []), (true, B2, B2), (false, P3, [])]) hD
  simpa [bC] using h
theorem f2_Ps {P1 B1 P2 B2 P3 : va_W} (hP : PP G (P1 ++ (B1 ++ (P2 ++ (B2 ++ P3)))) H) : PP G (B2 ++ B1) H := va_P_mem.mpr fun q hq => va_P_mem.mp (f2_P hP) q (List.mem_append.mpr (List.mem_append.mp hq).symm)
theorem f2_Ds {A : Nat → Prop} {P1 B1 P2 B2 P3 : va_W} (hD : va_D A (P1 ++ (B1 ++ (P2 ++ (B2 ++ P3))))) : va_D A (B2 ++ B1) := va_D_swap (f2_D hD)
/-- a void call on two blocks, the first block first in the callee's world -/
theorem kF2 {P1 B1 P2 B2 P3 B1' B2' : va_W} (hr : va_Run p l e R s m args below meth c H locs cells slots mc ms (F0 m pc ls st0) rest (qMv G (fun (u : Unit) => u = ()) (fun _ => B1' ++ B2') (B1 ++ B2) H a) (va_A (B1 ++ B2) H.size)) (hP : PP G (P1 ++ (B1 ++ (P2 ++ (B2 ++ P3)))) H) (hD : va_D A0 (P1 ++ (B1 ++ (P2 ++ (B2 ++ P3))))) (hS : va_S A0 H0 H locs) (hA : ∀ q, H0.size ≤ q → A0 q)
    (h1 : B1'.map Prod.fst = B1.map Prod.fst) (h2 : B2'.map Prod.fst = B2.map Prod.fst)
    (kk : ∀ (H1 : Heap) (locs1 : List Loc), PP G (P1 ++ (B1' ++ (P2 ++ (B2' ++ P3)))) H1 → va_D A0 (P1 ++ (B1' ++ (P2 ++ (B2' ++ P3)))) → va_S A0 H0 H1 locs1 → W p l e R s m args below meth c H1 locs1 (cells + mc) (slots + ms) Q (F0 m (pc + 3) ls rest)) : W p l e R s m args below meth c H locs cells slots Q (F0 m pc ls st0) := by
  refine kFv (S := Unit) (fun _ => [(false, P1, []), (true, B1, B1'), (false, P2, []), (true, B2, B2'), (false, P3, [])]) [(false, P1, []), (true, B1, B1'), (false, P2, []), (true, B2, B2'), (false, P3, [])] hr hP hD hS hA (fun _ => rfl) (fun _ => rfl) (fun _ b hb h => ?_) (fun q hq => ?_) (fun _ q hq => ?_) (fun _ H1 locs1 _ hP1 hD1 hS1 => kk H1 locs1 hP1 hD1 hS1)
  · simp only [List.mem_cons, List.not_mem_nil, or_false] at hb
    rcases hb with rfl | rfl | rfl | rfl | rfl
    · cases h
    · exact h1
    · cases h
    · exact h2
    · cases h
  · simpa [bC] using hq
  · simpa [bC1] using hq
/-- .. the second block first -/
theorem kF2s {P1 B1 P2 B2 P3 B1' B2' : va_W} (hr : va_Run p l e R s m args below meth c H locs cells slots mc ms (F0 m pc ls st0) rest (qMv G (fun (u : Unit) => u = ()) (fun _ => B2' ++ B1') (B2 ++ B1) H a) (va_A (B2 ++ B1) H.size)) (hP : PP G (P1 ++ (B1 ++ (P2 ++ (B2 ++ P3)))) H) (hD : va_D A0 (P1 ++ (B1 ++ (P2 ++ (B2 ++ P3))))) (hS : va_S A0 H0 H locs) (hA : ∀ q, H0.size ≤ q → A0 q)
    (h1 : B1'.map Prod.fst = B1.map Prod.fst) (h2 : B2'.map Prod.fst = B2.map Prod.fst)
    (kk : ∀ (H1 : Heap) (locs1 : List Loc), PP G (P1 ++ (B1' ++ (P2 ++ (B2' ++ P3)))) H1 → va_D A0 (P1 ++ (B1' ++ (P2 ++ (B2' ++ P3)))) → va_S A0 H0 H1 locs1 → W p l e R s m args below meth c H1 locs1 (cells + mc) (slots + ms) Q (F0 m (pc + 3) ls rest)) : W p l e R s m args below meth c H locs cells slots Q (F0 m pc ls st0) := by
  refine kFv (S := Unit) (fun _ => [(false, P1, []), (true, B1, B1'), (false, P2, []), (true, B2, B2'), (false, P3, [])]) [(false, P1, []), (true, B1, B1'), (false, P2, []), (true, B2, B2'), (false, P3, [])] hr hP hD hS hA (fun _ => rfl) (fun _ => rfl) (fun _ b hb h => ?_) (fun q hq => ?_) (fun _ q hq => ?_) (fun _ H1 locs1 _ hP1 hD1 hS1 => kk H1 locs1 hP1 hD1 hS1)
  · simp only [List.mem_cons, List.not_mem_nil, or_false] at hb
    rcases hb with rfl | rfl | rfl | rfl | rfl
    · cases h
    · exact h1
    · cases h
    · exact h2
    · cases h
  · have := List.mem_append.mp hq
    simpa [bC] using this.symm
  · have : q ∈ B1' ∨ q ∈ B2' := by simpa [bC1] using hq
    exact List.mem_append.mpr this.symm
end MYB2
