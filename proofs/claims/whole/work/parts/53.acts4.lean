section
variable {xs : Nat → Int32} {i : Int32} {N : Ne} {O : Nat → Int64} {M : Md}
theorem RR_up {f f2 : Nat → Int32} {T : AT} (H : RR f T g0) (V : AV T g0) (hn : 0 < T.1) (h0 : f2 0 = nI (T.1 - 1)) (h1 : ∀ h, h < 4 → f2 (118 + h) = if T.2.2.2.2.2.2.2.2.2.1 h = nI (T.1 - 1) then nM else T.2.2.2.2.2.2.2.2.2.1 h) (h2 : ∀ k, k ≠ 0 → k < 118 → f2 k = f k) : RR f2 (tUp T) g0 := by
  have hn6 := v_n V
  have he := v_e V
  refine ⟨h0, (h2 _ (by omega) (by omega)).trans (r_e (T := T) H), (h2 _ (by omega) (by omega)).trans (r_an (T := T) H), fun k hk => (h2 _ (by omega) (by omega)).trans (r_ct (T := T) H hk), fun k hk => (h2 _ (by omega) (by omega)).trans (r_op (T := T) H hk), fun k hk => (h2 _ (by omega) (by omega)).trans (r_key (T := T) H hk), ?_, ?_, ?_, ?_, fun k hk => (h2 _ (by omega) (by omega)).trans (r_lt (T := T) H hk), h1⟩
  · intro r p hr q1 q2
    have hr : r < T.1 - 1 := hr
    exact (h2 _ (by omega) (by omega)).trans (r_ri (T := T) H (by omega) q1 q2)
  · intro r p hr q1 q2
    have hr : r < T.1 - 1 := hr
    exact (h2 _ (by omega) (by omega)).trans (r_rk (T := T) H (by omega) q1 q2)
  · intro r hr
    have hr : r < T.1 - 1 := hr
    exact (h2 _ (by omega) (by omega)).trans (r_rh (T := T) H (by omega))
  · intro j hj
    have hj : j < T.2.1 := hj
    show ∀ w, w < 4 → _ = _
    intro w hw
    exact (h2 _ (by omega) (by omega)).trans (r_ev (T := T) H hj rfl hw)
end
