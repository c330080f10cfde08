/-! TREES for rows of memory: 2 ^ d places from lo on; a leaf stands for all places of its range -/
def tr_set {α : Type} : Nat → Nat → Lean.RArray α → Nat → α → Lean.RArray α
  | 0, _, _, _, v => .leaf v
  | d + 1, lo, .leaf a, i, v => (match Nat.ble (lo + 2 ^ d) i with
    | false => .branch (lo + 2 ^ d) (tr_set d lo (.leaf a) i v) (.leaf a)
    | true => .branch (lo + 2 ^ d) (.leaf a) (tr_set d (lo + 2 ^ d) (.leaf a) i v))
  | d + 1, lo, .branch p l r, i, v => (match Nat.ble p i with
    | false => .branch p (tr_set d lo l i v) r
    | true => .branch p l (tr_set d p r i v))
def tr_ok {α : Type} : Nat → Nat → Lean.RArray α → Prop
  | _, _, .leaf _ => True
  | 0, _, .branch _ _ _ => False
  | d + 1, lo, .branch p l r => p = lo + 2 ^ d ∧ tr_ok d lo l ∧ tr_ok d p r
theorem tr_ok_leaf {α : Type} (d lo : Nat) (a : α) : tr_ok d lo (.leaf a) := by
  cases d <;> exact True.intro
theorem tr_set_ok {α : Type} : ∀ (d lo : Nat) (t : Lean.RArray α) (i : Nat) (v : α), tr_ok d lo t → tr_ok d lo (tr_set d lo t i v) := by
  intro d
  induction d with
  | zero =>
    intro lo t i v _
    exact True.intro
  | succ d ih =>
    intro lo t i v h
    cases t with
    | leaf a =>
      show tr_ok (d + 1) lo (match Nat.ble (lo + 2 ^ d) i with
        | false => .branch (lo + 2 ^ d) (tr_set d lo (.leaf a) i v) (.leaf a)
        | true => .branch (lo + 2 ^ d) (.leaf a) (tr_set d (lo + 2 ^ d) (.leaf a) i v))
      cases Nat.ble (lo + 2 ^ d) i with
      | false => exact ⟨rfl, ih _ _ _ _ (tr_ok_leaf _ _ _), tr_ok_leaf _ _ _⟩
      | true => exact ⟨rfl, tr_ok_leaf _ _ _, ih _ _ _ _ (tr_ok_leaf _ _ _)⟩
    | branch p l r =>
      obtain ⟨h1, h2, h3⟩ := h
      show tr_ok (d + 1) lo (match Nat.ble p i with
        | false => .branch p (tr_set d lo l i v) r
        | true => .branch p l (tr_set d p r i v))
      cases Nat.ble p i with
      | false => exact ⟨h1, ih _ _ _ _ h2, h3⟩
      | true => exact ⟨h1, h2, ih _ _ _ _ h3⟩
theorem tr_get_branch {α : Type} (p : Nat) (l r : Lean.RArray α) (j : Nat) : (Lean.RArray.branch p l r).get j = if j < p then l.get j else r.get j := by
  show (Bool.rec (motive := fun _ => α) (l.get j) (r.get j) (Nat.ble p j) : α) = _
  cases h : Nat.ble p j with
  | false =>
    rw [if_pos (Nat.lt_of_not_le fun q => by rw [Nat.ble_eq.mpr q] at h; cases h)]
  | true =>
    rw [if_neg (Nat.not_lt.mpr (Nat.ble_eq.mp h))]
theorem tr_get_set {α : Type} : ∀ (d lo : Nat) (t : Lean.RArray α) (i : Nat) (v : α), tr_ok d lo t → lo ≤ i → i < lo + 2 ^ d → ∀ j, lo ≤ j → j < lo + 2 ^ d → (tr_set d lo t i v).get j = if j = i then v else t.get j := by
  intro d
  induction d with
  | zero =>
    intro lo t i v _ h1 h2 j h3 h4
    have hp : (2 : Nat) ^ 0 = 1 := rfl
    rw [hp] at h2 h4
    rw [if_pos (by omega)]
    rfl
  | succ d ih =>
    intro lo t i v h h1 h2 j h3 h4
    have hp : (2 : Nat) ^ (d + 1) = 2 ^ d + 2 ^ d := by rw [Nat.pow_succ]; omega
    rw [hp] at h2 h4
    cases t with
    | leaf a =>
      have hs : tr_set (d + 1) lo (.leaf a) i v = (match Nat.ble (lo + 2 ^ d) i with
        | false => .branch (lo + 2 ^ d) (tr_set d lo (.leaf a) i v) (.leaf a)
        | true => .branch (lo + 2 ^ d) (.leaf a) (tr_set d (lo + 2 ^ d) (.leaf a) i v)) := rfl
      rw [hs]
      cases hb : Nat.ble (lo + 2 ^ d) i with
      | false =>
        have hi : i < lo + 2 ^ d := Nat.lt_of_not_le fun q => by rw [Nat.ble_eq.mpr q] at hb; cases hb
        show (Lean.RArray.branch _ _ _).get j = _
        rw [tr_get_branch]
        split
        · rename_i hj
          exact ih lo (.leaf a) i v (tr_ok_leaf _ _ _) h1 hi j h3 hj
        · rename_i hj
          rw [if_neg (by omega)]
      | true =>
        have hi : lo + 2 ^ d ≤ i := Nat.ble_eq.mp hb
        show (Lean.RArray.branch _ _ _).get j = _
        rw [tr_get_branch]
        split
        · rename_i hj
          rw [if_neg (by omega)]
        · rename_i hj
          exact ih (lo + 2 ^ d) (.leaf a) i v (tr_ok_leaf _ _ _) hi (by omega) j (by omega) (by omega)
    | branch p l r =>
      obtain ⟨e1, e2, e3⟩ := h
      subst e1
      have hs : tr_set (d + 1) lo (.branch (lo + 2 ^ d) l r) i v = (match Nat.ble (lo + 2 ^ d) i with
        | false => .branch (lo + 2 ^ d) (tr_set d lo l i v) r
        | true => .branch (lo + 2 ^ d) l (tr_set d (lo + 2 ^ d) r i v)) := rfl
      rw [hs]
      cases hb : Nat.ble (lo + 2 ^ d) i with
      | false =>
        have hi : i < lo + 2 ^ d := Nat.lt_of_not_le fun q => by rw [Nat.ble_eq.mpr q] at hb; cases hb
        show (Lean.RArray.branch _ _ _).get j = _
        rw [tr_get_branch, tr_get_branch]
        split
        · rename_i hj
          exact ih lo l i v e2 h1 hi j h3 hj
        · rename_i hj
          rw [if_neg (by omega)]
      | true =>
        have hi : lo + 2 ^ d ≤ i := Nat.ble_eq.mp hb
        show (Lean.RArray.branch _ _ _).get j = _
        rw [tr_get_branch, tr_get_branch]
        split
        · rename_i hj
          rw [if_neg (by omega)]
        · rename_i hj
          exact ih (lo + 2 ^ d) r i v e3 hi (by omega) j (by omega) (by omega)
/-! the same, done at once: what comes out is built before one goes on -/
def tr_setK {α β : Type} : Nat → Nat → Lean.RArray α → Nat → α → (Lean.RArray α → β) → β
  | 0, _, _, _, v, k => k (.leaf v)
  | d + 1, lo, .leaf a, i, v, k => (match Nat.ble (lo + 2 ^ d) i with
    | false => tr_setK d lo (.leaf a) i v fun l => k (.branch (lo + 2 ^ d) l (.leaf a))
    | true => tr_setK d (lo + 2 ^ d) (.leaf a) i v fun r => k (.branch (lo + 2 ^ d) (.leaf a) r))
  | d + 1, lo, .branch p l r, i, v, k => (match Nat.ble p i with
    | false => tr_setK d lo l i v fun l' => k (.branch p l' r)
    | true => tr_setK d p r i v fun r' => k (.branch p l r'))
theorem tr_setK_eq {α β : Type} : ∀ (d lo : Nat) (t : Lean.RArray α) (i : Nat) (v : α) (k : Lean.RArray α → β), tr_setK d lo t i v k = k (tr_set d lo t i v) := by
  intro d
  induction d with
  | zero =>
    intro lo t i v k
    rfl
  | succ d ih =>
    intro lo t i v k
    cases t with
    | leaf a =>
      show (match Nat.ble (lo + 2 ^ d) i with
        | false => tr_setK d lo (.leaf a) i v fun l => k (.branch (lo + 2 ^ d) l (.leaf a))
        | true => tr_setK d (lo + 2 ^ d) (.leaf a) i v fun r => k (.branch (lo + 2 ^ d) (.leaf a) r)) = k (match Nat.ble (lo + 2 ^ d) i with
        | false => .branch (lo + 2 ^ d) (tr_set d lo (.leaf a) i v) (.leaf a)
        | true => .branch (lo + 2 ^ d) (.leaf a) (tr_set d (lo + 2 ^ d) (.leaf a) i v))
      cases Nat.ble (lo + 2 ^ d) i with
      | false => exact ih _ _ _ _ _
      | true => exact ih _ _ _ _ _
    | branch p l r =>
      show (match Nat.ble p i with
        | false => tr_setK d lo l i v fun l' => k (.branch p l' r)
        | true => tr_setK d p r i v fun r' => k (.branch p l r')) = k (match Nat.ble p i with
        | false => .branch p (tr_set d lo l i v) r
        | true => .branch p l (tr_set d p r i v))
      cases Nat.ble p i with
      | false => exact ih _ _ _ _ _
      | true => exact ih _ _ _ _ _
def fz_O {α β : Type} : List β → (List β → α) → α
  | [], k => k []
  | a :: l, k => fz_O l fun l' => k (a :: l')
theorem fz_O_eq {α β : Type} : ∀ (l : List β) (k : List β → α), fz_O l k = k l := by
  intro l
  induction l with
  | nil =>
    intro k
    rfl
  | cons a l ih =>
    intro k
    exact ih _
def fz_N {α : Type} (n : Nat) (k : Nat → α) : α := match n with
  | 0 => k 0
  | m + 1 => k (Nat.succ m)
theorem fz_N_eq {α : Type} (n : Nat) (k : Nat → α) : fz_N n k = k n := by
  cases n <;> rfl
def fz_I {α : Type} (x : Int) (k : Int → α) : α := match x with
  | .ofNat n => fz_N n fun n => k (.ofNat n)
  | .negSucc n => fz_N n fun n => k (.negSucc n)
theorem fz_I_eq {α : Type} (x : Int) (k : Int → α) : fz_I x k = k x := by
  cases x with
  | ofNat n => exact fz_N_eq n (fun n => k (.ofNat n))
  | negSucc n => exact fz_N_eq n (fun n => k (.negSucc n))
