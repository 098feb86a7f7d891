/-! worlds: the saved states, and the whole object -/
abbrev Sv : Type := (Nat → St) × Int32 × Int32
abbrev V_slots (v : Sv) : Nat → St := v.1
abbrev V_next (v : Sv) : Int32 := v.2.1
abbrev V_size (v : Sv) : Int32 := v.2.2
abbrev sV_slots (v : Sv) (x : Nat → St) : Sv := (x, V_next v, V_size v)
abbrev sV_next (v : Sv) (x : Int32) : Sv := (V_slots v, x, V_size v)
abbrev sV_size (v : Sv) (x : Int32) : Sv := (V_slots v, V_next v, x)
abbrev Ne : Type := St × Ot × Sv
abbrev N_now (u : Ne) : St := u.1
abbrev N_text (u : Ne) : Ot := u.2.1
abbrev N_saved (u : Ne) : Sv := u.2.2
abbrev sN_now (u : Ne) (x : St) : Ne := (x, N_text u, N_saved u)
abbrev sN_text (u : Ne) (x : Ot) : Ne := (N_now u, x, N_saved u)
abbrev sN_saved (u : Ne) (x : Sv) : Ne := (N_now u, N_text u, x)
/-- n States, at the addresses A 0, A 1, .. -/
def famW (cI : ClassId) (A : Nat → Nat → Nat) (S : Nat → St) : Nat → va_W
  | 0 => []
  | n + 1 => famW cI A S n ++ stW cI (A n) (S n)
/-- a row of n States -/
def slF (A : Nat → Nat → Nat) (n : Nat) : Nat → Option Nat := fun k => if k < n then some (A k 0) else none
/-- SavedStates: its cell h, its row q, the six States -/
def ssX (cI cS : ClassId) (h q : Nat) (A : Nat → Nat → Nat) (v : Sv) : va_W := [(h, .inr (1, [.ref q, .int (V_next v), .int (V_size v)])), (q, .inl (cS, 6, .inr (.inr (.inr (.inr (slF A 6))))))] ++ famW cI A (V_slots v) 6
def ssW (cI cS : ClassId) (G : Nat → Nat → Nat) (v : Sv) : va_W := ssX cI cS (G 2 1) (G 2 2) (fun k => G (3 + k)) v
/-- the object: its cell G 2 0, the State G 0, the OrderText G 1, the SavedStates -/
def neW (cI cS : ClassId) (G : Nat → Nat → Nat) (u : Ne) : va_W := [(G 2 0, .inr (3, [.ref (G 0 0), .ref (G 2 1), .ref (G 1 0)]))] ++ (stW cI (G 0) (N_now u) ++ (otW cI (G 1) (N_text u) ++ ssW cI cS G (N_saved u)))
def neRS (cI cS : ClassId) (G : Nat → Nat → Nat) (u : Ne) : va_W := [(G 2 0, .inr (3, [.ref (G 0 0), .ref (G 2 1), .ref (G 1 0)]))] ++ (otW cI (G 1) (N_text u) ++ ssW cI cS G (N_saved u))
def neRO (cI cS : ClassId) (G : Nat → Nat → Nat) (u : Ne) : va_W := [(G 2 0, .inr (3, [.ref (G 0 0), .ref (G 2 1), .ref (G 1 0)]))] ++ (stW cI (G 0) (N_now u) ++ ssW cI cS G (N_saved u))
def neRK (cI : ClassId) (G : Nat → Nat → Nat) (u : Ne) : va_W := [(G 2 0, .inr (3, [.ref (G 0 0), .ref (G 2 1), .ref (G 1 0)]))] ++ otW cI (G 1) (N_text u)
/-- the State beside the saved ones -/
def kW (cI cS : ClassId) (G : Nat → Nat → Nat) (q : Sv × St) : va_W := stW cI (G 0) q.2 ++ ssW cI cS G q.1
theorem pm1 {α : Type} (a b c : List α) : (a ++ (b ++ c)).Perm (b ++ (a ++ c)) := List.perm_append_comm_assoc a b c
theorem neS_f {cI cS : ClassId} {G : Nat → Nat → Nat} {u : Ne} : (neW cI cS G u).Perm (stW cI (G 0) (N_now u) ++ neRS cI cS G u) := pm1 _ _ _
theorem neS_b {cI cS : ClassId} {G : Nat → Nat → Nat} {u : Ne} (x : St) : (stW cI (G 0) x ++ neRS cI cS G u).Perm (neW cI cS G (sN_now u x)) := pm1 _ _ _
theorem neO_f {cI cS : ClassId} {G : Nat → Nat → Nat} {u : Ne} : (neW cI cS G u).Perm (otW cI (G 1) (N_text u) ++ neRO cI cS G u) :=
  (List.Perm.append_left _ (pm1 _ _ _)).trans (pm1 _ _ _)
theorem neO_b {cI cS : ClassId} {G : Nat → Nat → Nat} {u : Ne} (x : Ot) : (otW cI (G 1) x ++ neRO cI cS G u).Perm (neW cI cS G (sN_text u x)) :=
  (pm1 _ _ _).trans (List.Perm.append_left _ (pm1 _ _ _))
theorem pm2 {α : Type} (a b c d : List α) : (a ++ (b ++ (c ++ d))).Perm ((b ++ d) ++ (a ++ c)) :=
  (List.Perm.append_left a (List.Perm.append_left b List.perm_append_comm)).trans
    ((by rw [List.append_assoc b d]; exact (pm1 a b (d ++ c)).trans (List.Perm.append_left b (pm1 a d c)) : (a ++ (b ++ (d ++ c))).Perm ((b ++ d) ++ (a ++ c))))
theorem neK_f {cI cS : ClassId} {G : Nat → Nat → Nat} {u : Ne} : (neW cI cS G u).Perm (kW cI cS G (N_saved u, N_now u) ++ neRK cI G u) := pm2 _ _ _ _
theorem neK_b {cI cS : ClassId} {G : Nat → Nat → Nat} {u : Ne} (q : Sv × St) : (kW cI cS G q ++ neRK cI G u).Perm (neW cI cS G (sN_saved (sN_now u q.2) q.1)) := (pm2 _ _ _ _).symm
theorem neS {D : va_G} {H : Heap} {cI cS : ClassId} {G : Nat → Nat → Nat} {u : Ne} (h : va_P D vwCl (neW cI cS G u) H) : va_P D vwCl (stW cI (G 0) (N_now u)) H := vP_L (vP_perm neS_f h)
theorem neO {D : va_G} {H : Heap} {cI cS : ClassId} {G : Nat → Nat → Nat} {u : Ne} (h : va_P D vwCl (neW cI cS G u) H) : va_P D vwCl (otW cI (G 1) (N_text u)) H := vP_L (vP_perm neO_f h)
/-- one of the saved States, and the others -/
theorem fam_f {cI : ClassId} {A : Nat → Nat → Nat} {S : Nat → St} : ∀ (n k : Nat), k < n → ∃ r, (famW cI A S n).Perm (stW cI (A k) (S k) ++ r) ∧ ∀ x, (stW cI (A k) x ++ r).Perm (famW cI A (va_up S k x) n)
  | 0, k, h => absurd h (Nat.not_lt_zero k)
  | n + 1, k, h => by
    have keep : ∀ (n k : Nat) (x : St), n ≤ k → famW cI A (va_up S k x) n = famW cI A S n := by
      intro n
      induction n with
      | zero => intros; rfl
      | succ n ih =>
        intro k x hk
        show famW cI A (va_up S k x) n ++ stW cI (A n) (va_up S k x n) = famW cI A S n ++ stW cI (A n) (S n)
        rw [ih k x (by omega), show va_up S k x n = S n from va_up_ne _ _ (by omega)]
    by_cases hk : k = n
    · subst hk
      refine ⟨famW cI A S k, List.perm_append_comm, fun x => ?_⟩
      show (stW cI (A k) x ++ famW cI A S k).Perm (famW cI A (va_up S k x) k ++ stW cI (A k) (va_up S k x k))
      rw [keep k k x (Nat.le_refl k), show va_up S k x k = x from va_up_self _ _ _]
      exact List.perm_append_comm
    · obtain ⟨r, h1, h2⟩ := fam_f (cI := cI) (A := A) (S := S) n k (by omega)
      refine ⟨r ++ stW cI (A n) (S n), ?_, fun x => ?_⟩
      · show (famW cI A S n ++ stW cI (A n) (S n)).Perm _
        rw [← List.append_assoc]
        exact h1.append_right _
      · show _
        rw [← List.append_assoc]
        refine ((h2 x).append_right _).trans ?_
        show (famW cI A (va_up S k x) n ++ stW cI (A n) (S n)).Perm (famW cI A (va_up S k x) n ++ stW cI (A n) (va_up S k x n))
        rw [show va_up S k x n = S n from va_up_ne _ _ (by omega)]
