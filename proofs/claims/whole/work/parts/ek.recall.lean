/-! THE INVARIANT: recall leaves two cells anew -/
section RC
variable {t tr : Nat} {TS : Nat → Prop} {z : Nat} {kd : KD} {R : RF} {J J1 M : JI} {b4 b5 b6 b7 len sl : Nat}
theorem InvA_rc (h : InvA t tr TS z kd R J M b4 b5 b6 b7 len sl) (n : ∀ a i, ¬ a = 88 → ¬ a = 141 → J1 a i = J a i) : InvA (t + 1) tr TS z kd R J1 M b4 b5 b6 b7 len sl := by
  have hs := h.1.2.2.2.2.2.2.1
  have s2 := hs.2.1
  have s3 := hs.2.2.1
  have s16 := hs.2.2.2.2.2.2.2.2.2.2.2.2.2.2.2
  have e7 : J1 107 = J 107 := funext fun i => n _ _ (by omega) (by omega)
  have hB : InvB (t + 1) tr z kd R J1 := InvB_sm h.1 (fun a ha j => n _ _ (by omega) (by omega)) (smO_p hs (fun a i x => n _ _ (by omega) (by omega)) (by rw [n 105 32 (by omega) (by omega)]; exact s2) (by rw [n 105 51 (by omega) (by omega)]; exact s3) (by rw [n 24 12 (by omega) (by omega)]; omega))
  refine InvA_s h hB (fun a i x y w => n a i (fun s => x (by unfold XS1; omega)) (fun s => x (by unfold XS1; omega))) (Or.inl ⟨⟨n _ _ (by omega) (by omega), n _ _ (by omega) (by omega)⟩, fun i => n _ _ (by omega) (by omega)⟩) ?_ ?_ (fun _ => rfl)
  · rw [e7]; exact CrI_c (fun a i x y => n a i (by omega) (by omega)) h.2.2.1.1
  · rw [e7]; exact MxI_c (fun a i x y => n a i (by omega) (by omega)) h.2.2.1.2
end RC
