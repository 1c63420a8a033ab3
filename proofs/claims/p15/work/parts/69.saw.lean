/-- a log that was not sawn is: one less is left -/
theorem im_un_saw {f : Nat → Int32} {g : Nat} (hf : f g ≠ 3) : ∀ n : Nat, g < n → im_un (upd f g 3) n + 1 = im_un f n := by
  intro n
  induction n with
  | zero => intro h; omega
  | succ n ih =>
    intro h
    unfold im_un
    by_cases e : g = n
    · subst e
      rw [im_un_eq (f := f) g (fun k hk => by rw [ku_ne (by omega)]), ku_self, if_pos rfl, if_neg hf]
    · have := ih (by omega)
      rw [ku_ne (fun x => e x.symm)]
      omega
