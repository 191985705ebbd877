/-! ===== what holds at every call of the law ===== -/
theorem lw_eqv {G : GT} {H : Heap} {a : Nat → Nat} {v w : SVT} {mo ki : Nat → Nat} {pr df : Nat → Int} {co : Int32} {bi : Nat} {g9 : Nat → Int32} {lr : Nat} {bf : Nat → Int} {tn : Nat → Nat} {ln nx ct : Nat} {hv : Nat → SVT} {v0 : SVT} {k0 : Nat} {v1 : SVT} {k1 : Nat} {oa : Nat} {of : Nat → Int64} {mh m1 m2 m3 m4 m5 : Nat} {ss hi sl : Nat → Int} {tx : Nat → Nat} {ne : Nat → Int} {th : Int32} {kn ke le : Nat} {sp wr si on tw dn : Int32} (e : eqv v w) (h : PP G (lwW G a v mo ki pr df co bi g9 lr bf tn ln nx ct hv v0 k0 v1 k1 oa of mh m1 m2 m3 m4 m5 ss hi sl tx ne th kn ke le sp wr si on tw dn) H) : PP G (lwW G a w mo ki pr df co bi g9 lr bf tn ln nx ct hv v0 k0 v1 k1 oa of mh m1 m2 m3 m4 m5 ss hi sl tx ne th kn ke le sp wr si on tw dn) H := PP_app (PP_app (xW_eqv e (PP_l (PP_l h))) (PP_r (PP_l h))) (PP_r h)
theorem lw_D {G : GT} {A : Nat → Prop} {a : Nat → Nat} {v w : SVT} {mo ki : Nat → Nat} {pr df : Nat → Int} {co : Int32} {bi : Nat} {g9 : Nat → Int32} {lr : Nat} {bf : Nat → Int} {tn : Nat → Nat} {ln nx ct : Nat} {hv : Nat → SVT} {v0 : SVT} {k0 : Nat} {v1 : SVT} {k1 : Nat} {oa : Nat} {of : Nat → Int64} {mh m1 m2 m3 m4 m5 : Nat} {ss hi sl : Nat → Int} {tx : Nat → Nat} {ne : Nat → Int} {th : Int32} {kn ke le : Nat} {sp wr si on tw dn : Int32} (h : va_D A (lwW G a v mo ki pr df co bi g9 lr bf tn ln nx ct hv v0 k0 v1 k1 oa of mh m1 m2 m3 m4 m5 ss hi sl tx ne th kn ke le sp wr si on tw dn)) : va_D A (lwW G a w mo ki pr df co bi g9 lr bf tn ln nx ct hv v0 k0 v1 k1 oa of mh m1 m2 m3 m4 m5 ss hi sl tx ne th kn ke le sp wr si on tw dn) := h.fst rfl
def INV (G : GT) (a : Nat → Nat) (oa mh m1 m2 m3 m4 m5 bq : Nat) (s : State) (i : Nat) (H : Heap) (locs : List Loc) (ls : Array Slot) : Prop := ∃ (mo ki : Nat → Nat) (pr df : Nat → Int) (co : Int32) (bi : Nat) (g9 : Nat → Int32) (lr : Nat) (bf : Nat → Int) (nx : Nat) (hv : Nat → SVT) (v0 : SVT) (k0 : Nat) (v1 : SVT) (k1 : Nat) (of : Nat → Int64) (ss hi sl : Nat → Int) (tx : Nat → Nat) (ne : Nat → Int) (th : Int32) (kn ke le : Nat) (sp wr si on tw dn : Int32) (k o : Nat → Nat), PP G (lwW G a (vOf ss k o) mo ki pr df co bi g9 lr bf tx le nx kn hv v0 k0 v1 k1 oa of mh m1 m2 m3 m4 m5 ss hi sl tx ne th kn ke le sp wr si on tw dn) H ∧ va_D (lo G) (lwW G a (vOf ss k o) mo ki pr df co bi g9 lr bf tx le nx kn hv v0 k0 v1 k1 oa of mh m1 m2 m3 m4 m5 ss hi sl tx ne th kn ke le sp wr si on tw dn) ∧ va_S (lo G) s.heap H locs ∧ lv_has ls 7 [(0, .ref bq), (1, .ref (a 0)), (2, .ref mh), (3, .ref oa), (4, .int (nI (i)))] ∧ REL ss hi sl tx kn ke le k o mo df nx hv v0 k0 v1 k1
theorem INV_of {G : GT} {a : Nat → Nat} {oa mh m1 m2 m3 m4 m5 bq : Nat} {s : State} {i : Nat} {H : Heap} {locs : List Loc} {ls : Array Slot} (mo ki : Nat → Nat) (pr df : Nat → Int) (co : Int32) (bi : Nat) (g9 : Nat → Int32) (lr : Nat) (bf : Nat → Int) (nx : Nat) (hv : Nat → SVT) (v0 : SVT) (k0 : Nat) (v1 : SVT) (k1 : Nat) (of : Nat → Int64) (ss hi sl : Nat → Int) (tx : Nat → Nat) (ne : Nat → Int) (th : Int32) (kn ke le : Nat) (sp wr si on tw dn : Int32) (k o : Nat → Nat) {v : SVT} (e : eqv v (vOf ss k o)) (hP : PP G (lwW G a v mo ki pr df co bi g9 lr bf tx le nx kn hv v0 k0 v1 k1 oa of mh m1 m2 m3 m4 m5 ss hi sl tx ne th kn ke le sp wr si on tw dn) H) (hD : va_D (lo G) (lwW G a v mo ki pr df co bi g9 lr bf tx le nx kn hv v0 k0 v1 k1 oa of mh m1 m2 m3 m4 m5 ss hi sl tx ne th kn ke le sp wr si on tw dn)) (hS : va_S (lo G) s.heap H locs) (hl : lv_has ls 7 [(0, .ref bq), (1, .ref (a 0)), (2, .ref mh), (3, .ref oa), (4, .int (nI (i)))]) (hR : REL ss hi sl tx kn ke le k o mo df nx hv v0 k0 v1 k1) : INV G a oa mh m1 m2 m3 m4 m5 bq s i H locs ls :=
  ⟨mo, ki, pr, df, co, bi, g9, lr, bf, nx, hv, v0, k0, v1, k1, of, ss, hi, sl, tx, ne, th, kn, ke, le, sp, wr, si, on, tw, dn, k, o, lw_eqv e hP, lw_D hD, hS, hl, hR⟩
theorem eqv_of {v w : SVT} (e : v = w) : eqv v w := e ▸ eqv_rfl v
theorem iN {z : Int} (h : 0 ≤ z) : iI z = nI z.toNat := by rw [nI_i, Int.toNat_of_nonneg h]
theorem arg_i (x : Int32) : x = iI x.toInt := (iI_self x).symm
theorem arg_n (x : Int32) (N : Int) : (∃ p : Nat, (p : Int) < N ∧ x = nI p) ∨ (x.toInt < 0 ∨ N ≤ x.toInt) := by
  by_cases h : 0 ≤ x.toInt ∧ x.toInt < N
  · exact .inl ⟨x.toInt.toNat, by omega, (arg_i x).trans (iN h.1)⟩
  · exact .inr (by omega)
theorem arg_r (x : Int32) (lo hi : Int) (h0 : 0 ≤ lo) : (∃ q : Nat, (lo ≤ (q : Int) ∧ (q : Int) ≤ hi) ∧ x = nI q ∧ lo ≤ x.toInt ∧ x.toInt ≤ hi) ∨ (x.toInt < lo ∨ hi < x.toInt) := by
  by_cases h : lo ≤ x.toInt ∧ x.toInt ≤ hi
  · exact .inl ⟨x.toInt.toNat, by omega, (arg_i x).trans (iN (by omega)), h⟩
  · exact .inr (by omega)
theorem sZ_ag {f g : Nat → Int} : ∀ n, (∀ j, j < n → f j = g j) → sZ f n = sZ g n
  | 0, _ => rfl
  | n + 1, h => by show sZ f n + f n = sZ g n + g n; rw [sZ_ag n (fun j hj => h j (by omega)), h n (by omega)]
theorem er_eq {ss : Nat → Int} : sZ (fun j => (ss j - ss (64 + j)) * (ss j - ss (64 + j))) 64 = sZ (fun j => (dS ss j - tS ss j) * (dS ss j - tS ss j)) 64 := sZ_ag 64 (fun j hj => by show (ss j - ss (64 + j)) * (ss j - ss (64 + j)) = (dS ss j - tS ss j) * (dS ss j - tS ss j); have a1 : ss j = dS ss j := dS_at hj; have a2 : ss (64 + j) = tS ss j := tS_at hj; rw [a1, a2])
theorem dr_eq {ss : Nat → Int} : sZ (fun j => ((ss (64 + j) - ss (128 + j)).natAbs : Int)) 64 = sZ (fun j => ((tS ss j - rS ss j).natAbs : Int)) 64 := sZ_ag 64 (fun j hj => by show ((ss (64 + j) - ss (128 + j)).natAbs : Int) = ((tS ss j - rS ss j).natAbs : Int); have a1 : ss (64 + j) = tS ss j := tS_at hj; have a2 : ss (128 + j) = rS ss j := rS_at hj; rw [a1, a2])
theorem lk_eq {ss : Nat → Int} {k o : Nat → Nat} {b : Nat} (hM : MR ss) (hK : KO ss k o) (hb : b < 4) : ss (197 + b) - 1 = (if (ss 194).toNat = 0 then -1 else (k b : Int)) := by
  have h4 := hM.2.2.2.1
  by_cases c : ss 194 = 0
  · rw [if_pos (by omega), hK.2.1 c b hb]; rfl
  · rw [if_neg (by omega), (hK.2.2 c b hb).1]; omega
theorem lm_eq {ss : Nat → Int} {k o : Nat → Nat} {b : Nat} (hM : MR ss) (hK : KO ss k o) (hb : b < 4) : (if ss 194 = 0 then -1 else ss (201 + b)) = (if (ss 194).toNat = 0 ∨ k b = 0 then -1 else (o b : Int)) := by
  have h4 := hM.2.2.2.1
  by_cases c : ss 194 = 0
  · rw [if_pos c, if_pos (Or.inl (by omega))]
  · rw [if_neg c, (hK.2.2 c b hb).2]
    by_cases ck : k b = 0
    · rw [if_pos ck, if_pos (Or.inr ck)]
    · rw [if_neg ck, if_neg (by omega)]
