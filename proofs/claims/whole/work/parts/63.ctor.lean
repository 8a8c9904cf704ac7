section
set_option maxRecDepth 100000 in
theorem ev_3_0 {dp : Nat} {z : Nat} {kd : (Nat → Nat × Nat)} {I : JI} {L : JI} {R : (Nat → Nat → Option Nat)} {a0 : Nat} {P_ : (PSi × Nat × Nat) → Prop} (h : Ev (fun n => (if 1 ≤ dp then (adk 1 24 (stI (z + 1) (fun z_7 => (stI (va_up kd z (13, 24)) (fun kd_7 => (stI (nw2 I z) (fun I_7 => (stI (nw2 L z) (fun L_7 => (stI (va_up R z (fun _ => none)) (fun R_7 => (if (a0 < z_7) ∧ ((kd_7 a0).1 = 10) then (stI (u2 R_7 a0 0 (some z)) (fun R_9 => (adk 1 24 (stI (z_7 + 1) (fun z_15 => (stI (va_up kd_7 z_7 (13, 24)) (fun kd_15 => (stI (nw2 I_7 z_7) (fun I_15 => (stI (nw2 L_7 z_7) (fun L_15 => (stI (va_up R_9 z_7 (fun _ => none)) (fun R_15 => (if (a0 < z_15) ∧ ((kd_15 a0).1 = 10) then (stI (u2 R_15 a0 1 (some z_7)) (fun R_17 => (adk 1 24 (stI (z_15 + 1) (fun z_23 => (stI (va_up kd_15 z_15 (13, 24)) (fun kd_23 => (stI (nw2 I_15 z_15) (fun I_23 => (stI (nw2 L_15 z_15) (fun L_23 => (stI (va_up R_17 z_15 (fun _ => none)) (fun R_23 => (if (a0 < z_23) ∧ ((kd_23 a0).1 = 10) then (stI (u2 R_23 a0 2 (some z_15)) (fun R_25 => (adk 1 24 (stI (z_23 + 1) (fun z_31 => (stI (va_up kd_23 z_23 (13, 24)) (fun kd_31 => (stI (nw2 I_23 z_23) (fun I_31 => (stI (nw2 L_23 z_23) (fun L_31 => (stI (va_up R_25 z_23 (fun _ => none)) (fun R_31 => (if (a0 < z_31) ∧ ((kd_31 a0).1 = 10) then (stI (u2 R_31 a0 3 (some z_23)) (fun R_33 => (adk 1 24 (stI (z_31 + 1) (fun z_39 => (stI (va_up kd_31 z_31 (13, 24)) (fun kd_39 => (stI (nw2 I_31 z_31) (fun I_39 => (stI (nw2 L_31 z_31) (fun L_39 => (stI (va_up R_33 z_31 (fun _ => none)) (fun R_39 => (if (a0 < z_39) ∧ ((kd_39 a0).1 = 10) then (stI (u2 R_39 a0 4 (some z_31)) (fun R_41 => (adk 1 16 (stI (z_39 + 1) (fun z_47 => (stI (va_up kd_39 z_39 (13, 16)) (fun kd_47 => (stI (nw2 I_39 z_39) (fun I_47 => (stI (nw2 L_39 z_39) (fun L_47 => (stI (va_up R_41 z_39 (fun _ => none)) (fun R_47 => (if (a0 < z_47) ∧ ((kd_47 a0).1 = 10) then (stI (u2 R_47 a0 5 (some z_39)) (fun R_49 => (adk 1 16 (stI (z_47 + 1) (fun z_55 => (stI (va_up kd_47 z_47 (13, 16)) (fun kd_55 => (stI (nw2 I_47 z_47) (fun I_55 => (stI (nw2 L_47 z_47) (fun L_55 => (stI (va_up R_49 z_47 (fun _ => none)) (fun R_55 => (if (a0 < z_55) ∧ ((kd_55 a0).1 = 10) then (stI (u2 R_55 a0 6 (some z_47)) (fun R_57 => (adk 1 160 (stI (z_55 + 1) (fun z_64 => (stI (va_up kd_55 z_55 (13, 160)) (fun kd_64 => (stI (nw2 I_55 z_55) (fun I_64 => (stI (nw2 L_55 z_55) (fun L_64 => (stI (va_up R_57 z_55 (fun _ => none)) (fun R_64 => (if (a0 < z_64) ∧ ((kd_64 a0).1 = 10) then (stI (u2 R_64 a0 7 (some z_55)) (fun R_66 => (adk 1 400 (stI (z_64 + 1) (fun z_73 => (stI (va_up kd_64 z_64 (13, 400)) (fun kd_73 => (stI (nw2 I_64 z_64) (fun I_73 => (stI (nw2 L_64 z_64) (fun L_73 => (stI (va_up R_66 z_64 (fun _ => none)) (fun R_73 => (if (a0 < z_73) ∧ ((kd_73 a0).1 = 10) then (stI (u2 R_73 a0 8 (some z_64)) (fun R_75 => (adk 1 400 (stI (z_73 + 1) (fun z_82 => (stI (va_up kd_73 z_73 (13, 400)) (fun kd_82 => (stI (nw2 I_73 z_73) (fun I_82 => (stI (nw2 L_73 z_73) (fun L_82 => (stI (va_up R_75 z_73 (fun _ => none)) (fun R_82 => (if (a0 < z_82) ∧ ((kd_82 a0).1 = 10) then (stI (u2 R_82 a0 9 (some z_73)) (fun R_84 => (if (a0 < z_82) ∧ ((kd_82 a0).1 = 10) then (stI (w2 I_82 a0 10 0) (fun I_89 => (if (a0 < z_82) ∧ ((kd_82 a0).1 = 10) then (stI (w2 I_89 a0 11 0) (fun I_94 => (if (a0 < z_82) ∧ ((kd_82 a0).1 = 10) then (stI (w2 I_94 a0 12 0) (fun I_99 => (if (a0 < z_82) ∧ ((kd_82 a0).1 = 10) then (stI (w2 I_99 a0 13 0) (fun I_104 => (some ((z_82, kd_82, I_104, L_82, R_84), 0, 0)))) else none))) else none))) else none))) else none))) else none)))))))))))))) else none)))))))))))))) else none)))))))))))))) else none)))))))))))))) else none)))))))))))))) else none)))))))))))))) else none)))))))))))))) else none)))))))))))))) else none)))))))))))))) else none)))))))))))) else none)) P_) : Ev (fun n => kf_3 n dp 0 z kd I L R a0) P_ := Ev_step (fun n => ke_3_0 n dp z kd I L R a0) h
end
/-! NEW CELLS: trees and halls made anew -/
abbrev KD : Type := Nat → Nat × Nat
abbrev RF : Type := Nat → Nat → Option Nat
theorem Ev_adk {α : Type} {c s : Nat} {f : Nat → Option (α × Nat × Nat)} {P : α × Nat × Nat → Prop} (h : Ev f (fun q => P (q.1, q.2.1 + c, q.2.2 + s))) : Ev (fun n => adk c s (f n)) P := by
  obtain ⟨N, r, h1, h2⟩ := h
  refine ⟨N, (r.1, r.2.1 + c, r.2.2 + s), fun n hn => ?_, h2⟩
  show adk c s (f n) = _
  rw [h1 n hn]
  rfl
/-- the object a0 of kind cl stands with its first arrays of lengths Ls; below it all is as it was -/
def StG (a0 cl : Nat) (Ls : List Nat) (kd1 : KD) (J1 M1 : JI) (R1 : RF) (z : Nat) (kd : KD) (J M : JI) (R : RF) : Prop :=
  z = a0 + 1 + Ls.length ∧ (kd a0).1 = cl ∧ (∀ i, i < Ls.length → R a0 i = some (a0 + 1 + i) ∧ (kd (a0 + 1 + i)).1 = 13 ∧ (kd (a0 + 1 + i)).2 = Ls.getD i 0 ∧ ∀ j, J (a0 + 1 + i) j = 0) ∧ (∀ a, a < a0 → kd a = kd1 a ∧ (∀ j, R a j = R1 a j) ∧ (∀ j, J a j = J1 a j) ∧ (∀ j, M a j = M1 a j))
theorem vu_n {α : Type} {f : Nat → α} {a b : Nat} {v : α} (h : ¬ b = a) : va_up f a v b = f b := by unfold va_up; rw [if_neg h]
theorem StG_step {a0 cl L : Nat} {Ls : List Nat} {kd1 : KD} {J1 M1 : JI} {R1 : RF} {z : Nat} {kd : KD} {J M : JI} {R : RF} (h : StG a0 cl Ls kd1 J1 M1 R1 z kd J M R) : StG a0 cl (Ls ++ [L]) kd1 J1 M1 R1 (z + 1) (va_up kd z (13, L)) (nw2 J z) (nw2 M z) (u2 (va_up R z (fun _ => none)) a0 Ls.length (some z)) := by
  obtain ⟨h1, h2, h3, h4⟩ := h
  have hl : (Ls ++ [L]).length = Ls.length + 1 := by simp
  refine ⟨by rw [hl]; omega, by rw [vu_n (by omega)]; exact h2, fun i hi => ?_, fun a ha => ?_⟩
  · rw [hl] at hi
    by_cases c : i = Ls.length
    · subst c
      refine ⟨?_, ?_, ?_, ?_⟩
      · rw [u2_ite, if_pos ⟨rfl, rfl⟩, h1]
      · rw [show a0 + 1 + Ls.length = z from h1.symm, vu_same]
      · rw [show a0 + 1 + Ls.length = z from h1.symm, vu_same]
        simp
      · intro j
        rw [show a0 + 1 + Ls.length = z from h1.symm]
        show (if z = z then (0 : Int) else J z j) = 0
        rw [if_pos rfl]
    · have q := h3 i (by omega)
      refine ⟨?_, ?_, ?_, ?_⟩
      · rw [u2_ite, if_neg (fun y => c y.2), vu_n (by omega)]; exact q.1
      · rw [vu_n (by omega)]; exact q.2.1
      · rw [vu_n (by omega), q.2.2.1, List.getD_eq_getElem?_getD, List.getD_eq_getElem?_getD, List.getElem?_append_left (by omega)]
      · intro j
        show (if a0 + 1 + i = z then (0 : Int) else J (a0 + 1 + i) j) = 0
        rw [if_neg (by omega)]; exact q.2.2.2 j
  · have q := h4 a ha
    refine ⟨by rw [vu_n (by omega)]; exact q.1, fun j => ?_, fun j => ?_, fun j => ?_⟩
    · rw [u2_ite, if_neg (fun y => by omega), vu_n (by omega)]; exact q.2.1 j
    · show (if a = z then (0 : Int) else J a j) = _
      rw [if_neg (by omega)]; exact q.2.2.1 j
    · show (if a = z then (0 : Int) else M a j) = _
      rw [if_neg (by omega)]; exact q.2.2.2 j
theorem Ev_al {α : Type} {a0 cl L j : Nat} {Ls : List Nat} {kd1 : KD} {J1 M1 : JI} {R1 : RF} {z : Nat} {kd : KD} {J M : JI} {R : RF} {k : Nat → Nat → KD → JI → JI → RF → Option (α × Nat × Nat)} {P : α × Nat × Nat → Prop} (h : StG a0 cl Ls kd1 J1 M1 R1 z kd J M R) (hj : j = Ls.length)
    (g : ∀ z' kd' J' M' R', StG a0 cl (Ls ++ [L]) kd1 J1 M1 R1 z' kd' J' M' R' → Ev (fun n => k n z' kd' J' M' R') (fun q => P (q.1, q.2.1 + 1, q.2.2 + L))) :
    Ev (fun n => adk 1 L (stI (z + 1) (fun z1 => (stI (va_up kd z (13, L)) (fun kd1 => (stI (nw2 J z) (fun J1 => (stI (nw2 M z) (fun M1 => (stI (va_up R z (fun _ => none)) (fun R1 => (if (a0 < z1) ∧ ((kd1 a0).1 = cl) then (stI (u2 R1 a0 j (some z)) (fun R2 => k n z1 kd1 J1 M1 R2)) else none)))))))))))) P := by
  refine Ev_adk ?_
  have s := StG_step (L := L) h
  subst hj
  exact Ev_st (Ev_st (Ev_st (Ev_st (Ev_st (Ev_t ⟨by have := h.1; omega, s.2.1⟩ (Ev_st (g _ _ _ _ _ s)))))))
section KB
variable {dp : Nat}
def trL : List Nat := [24, 24, 24, 24, 24, 16, 16, 160, 400, 400]
set_option maxRecDepth 20000 in
theorem K3 {a0 : Nat} {kd1 : KD} {J1 M1 : JI} {R1 : RF} {z : Nat} {kd : KD} {J M : JI} {R : RF} (hd : 1 ≤ dp) (h : StG a0 10 [] kd1 J1 M1 R1 z kd J M R) : Ev (fun n => kf_3 n dp 0 z kd J M R a0) (fun q => ∃ z' kd' J' M' R', q = ((z', kd', J', M', R'), 10, 1112) ∧ StG a0 10 trL kd1 J1 M1 R1 z' kd' J' M' R' ∧ J' a0 10 = 0 ∧ J' a0 11 = 0 ∧ J' a0 12 = 0 ∧ J' a0 13 = 0) := by
  refine ev_3_0 ?_
  refine Ev_t hd ?_
  refine Ev_al h rfl (fun z1 k1 J1 M1 R1 h => ?_)
  refine Ev_al h rfl (fun z1 k1 J1 M1 R1 h => ?_)
  refine Ev_al h rfl (fun z1 k1 J1 M1 R1 h => ?_)
  refine Ev_al h rfl (fun z1 k1 J1 M1 R1 h => ?_)
  refine Ev_al h rfl (fun z1 k1 J1 M1 R1 h => ?_)
  refine Ev_al h rfl (fun z1 k1 J1 M1 R1 h => ?_)
  refine Ev_al h rfl (fun z1 k1 J1 M1 R1 h => ?_)
  refine Ev_al h rfl (fun z1 k1 J1 M1 R1 h => ?_)
  refine Ev_al h rfl (fun z1 k1 J1 M1 R1 h => ?_)
  refine Ev_al h rfl (fun z1 k1 J1 M1 R1 h => ?_)
  have hc : (a0 < z1) ∧ ((k1 a0).1 = 10) := ⟨by have := h.1; omega, h.2.1⟩
  refine Ev_t hc (Ev_st (Ev_t hc (Ev_st (Ev_t hc (Ev_st (Ev_t hc (Ev_st (Ev_ret ?_))))))))
  refine ⟨_, _, _, _, _, rfl, ⟨h.1, h.2.1, fun i hi => ?_, fun a ha => ?_⟩, ?_, ?_, ?_, ?_⟩
  · obtain ⟨q1, q2, q3, q4⟩ := h.2.2.1 i hi
    refine ⟨q1, q2, q3, fun j => ?_⟩
    simp (disch := omega) only [w2_o]
    exact q4 j
  · obtain ⟨q1, q2, q3, q4⟩ := h.2.2.2 a ha
    refine ⟨q1, q2, fun j => ?_, q4⟩
    simp (disch := omega) only [w2_o]
    exact q3 j
  · simp only [w2_ap, true_and, Int.reduceEq, if_true, if_false]
  · simp only [w2_ap, true_and, Int.reduceEq, if_true, if_false]
  · simp only [w2_ap, true_and, Int.reduceEq, if_true, if_false]
  · simp only [w2_ap, true_and, Int.reduceEq, if_true, if_false]
theorem TrO_of {a0 : Nat} {kd1 : KD} {J1 M1 : JI} {R1 : RF} {z : Nat} {kd : KD} {J M : JI} {R : RF} (h : StG a0 10 trL kd1 J1 M1 R1 z kd J M R) : TrO (z, kd, R) a0 := by
  obtain ⟨h1, h2, h3, h4⟩ := h
  have hl : trL.length = 10 := rfl
  rw [hl] at h1 h3
  have f : ∀ i, i < 10 → R a0 i = some (a0 + 1 + i) ∧ arO (z, kd, R) (a0 + 1 + i) (trL.getD i 0) := fun i hi => ⟨(h3 i hi).1, by show a0 + 1 + i < z; omega, (h3 i hi).2.1, (h3 i hi).2.2.1⟩
  exact ⟨⟨by show a0 < z; omega, h2⟩, f 0 (by decide), f 1 (by decide), f 2 (by decide), f 3 (by decide), f 4 (by decide), f 5 (by decide), f 6 (by decide), f 7 (by decide), f 8 (by decide), f 9 (by decide)⟩
end KB
