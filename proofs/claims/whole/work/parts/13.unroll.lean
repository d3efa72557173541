/-! ===== blocks: the small machine runs on until it comes to one of the stops ===== -/
def mm_stop : List Nat → Nat → Bool
  | [], _ => false
  | k :: l, pc => match Nat.beq k pc with
    | true => true
    | false => mm_stop l pc
def mm_us (E : mm_Ev) (cs : mm_Cs) (K : mm_Cf → Option mm_Rs) (S : List Nat) : Nat → mm_Cf → Option mm_Rs
  | 0, x => K x
  | n + 1, x => mm_sk E cs (fun y => match mm_stop S y.1 with
    | true => K y
    | false => mm_us E cs K S n y) x
theorem mm_rx_s (E : mm_Ev) (cs : mm_Cs) (S : List Nat) : ∀ (n : Nat) (x : mm_Cf), mm_rx E cs x = mm_us E cs (mm_rx E cs) S n x
  | 0, _ => rfl
  | n + 1, x => by
    show mm_rx E cs x = mm_sk E cs (fun y => match mm_stop S y.1 with
      | true => mm_rx E cs y
      | false => mm_us E cs (mm_rx E cs) S n y) x
    have e : (fun y : mm_Cf => match mm_stop S y.1 with
      | true => mm_rx E cs y
      | false => mm_us E cs (mm_rx E cs) S n y) = mm_rx E cs := by
      funext y
      split
      · rfl
      · exact (mm_rx_s E cs S n y).symm
    rw [e]
    exact mm_rx_eq E cs x
