/-! no more than twenty -/
def bS (m t a s : Nat) : Nat := if m.testBit (s % 12) then 1 else 0
def sm (f : Nat → Nat) : Nat → Nat
  | 0 => 0
  | k + 1 => sm f k + f k
theorem len_sm {β : Type} (f : Nat → List β) (g : Nat → Nat) (h : ∀ k, (f k).length ≤ g k) : ∀ N, ((List.range N).flatMap f).length ≤ sm g N
  | 0 => Nat.le_refl _
  | N + 1 => by
    rw [List.range_succ, List.flatMap_append, List.flatMap_singleton, List.length_append]
    have := len_sm f g h N
    have := h N
    show _ ≤ sm g N + g N
    omega
theorem len_sm1 {β : Type} (f : Nat → β) (p : β → Bool) (g : Nat → Nat) (h : ∀ k, p (f k) = true → 1 ≤ g k) : ∀ N, (((List.range N).map f).filter p).length ≤ sm g N
  | 0 => Nat.le_refl _
  | N + 1 => by
    rw [List.range_succ, List.map_append, List.filter_append, List.length_append]
    have h1 := len_sm1 f p g h N
    have h2 := h N
    show _ ≤ sm g N + g N
    cases q : p (f N) with
    | false =>
      have : ([N].map f).filter p = [] := by show [f N].filter p = []; rw [List.filter_cons_of_neg (by rw [q]; decide)]; rfl
      rw [this]
      show _ + 0 ≤ _
      omega
    | true =>
      have : ([N].map f).filter p = [f N] := by show [f N].filter p = [f N]; rw [List.filter_cons_of_pos q]; rfl
      rw [this]
      have := h2 q
      show _ + 1 ≤ _
      omega
def qS (m ld b t a s : Nat) : Nat := if s ≤ a then 0 else if a + 12 < s then 0 else if m.testBit (s % 12) then (if (2 ^ (b % 12) ||| 2 ^ (t % 12) ||| 2 ^ (a % 12) ||| 2 ^ (s % 12)) &&& m = m then (if (if b % 12 = ld then 1 else 0) + (if t % 12 = ld then 1 else 0) + (if a % 12 = ld then 1 else 0) + (if s % 12 = ld then 1 else 0) ≤ 1 then 1 else 0) else 0) else 0
def qA (m ld b t a : Nat) : Nat := if a ≤ t then 0 else if t + 12 < a then 0 else if m.testBit (a % 12) then sm (fun k => qS m ld b t a (58 + k)) 22 else 0
def qT (m ld b t : Nat) : Nat := if t ≤ b then 0 else if m.testBit (t % 12) then sm (fun k => qA m ld b t (53 + k)) 22 else 0
def qC (m ld b : Nat) : Nat := sm (fun k => qT m ld b (48 + k)) 20
def qK (key b fig : Nat) : Nat := qC (tns key b fig) ((key + 11) % 12) b
def qB (key fig : Nat) : Nat → Bool
  | 0 => true
  | k + 1 => qB key fig k && Nat.ble (qK key (36 + k) fig) 20
def qAll : Nat → Bool
  | 0 => true
  | k + 1 => qAll k && qB k 5 24 && qB k 6 24 && qB k 64 24 && qB k 7 24
theorem q_all : qAll 12 = true := by decide +kernel
