/-! what a method does on the abstract machine: runs with fuel, their limit, calls by depth -/
def look (t : List (Nat × En)) (pc : Nat) : Option En := match t with
  | [] => none
  | (q, e) :: r => if q = pc then some e else look r pc
def nxt (cf : Nat → List Value → AM → Option AR) (m pc : Nat) (L st : List Value) (M : AM) : NX := match look (tab m) pc with
  | some (i, len, ax, cst) => nx cf i len ax cst pc L st M
  | none => none
def runN (cf : Nat → List Value → AM → Option AR) (m : Nat) (n pc : Nat) (L st : List Value) (M : AM) : Option AR := match n with
  | 0 => none
  | n + 1 => match nxt cf m pc L st M with
    | none => none
    | some (.inl (a, b, c, d)) => runN cf m n a b c d
    | some (.inr r) => some r
theorem runN_mono (cf : Nat → List Value → AM → Option AR) (m : Nat) : ∀ (n k pc : Nat) (L st : List Value) (M : AM) (r : AR), runN cf m n pc L st M = some r → runN cf m (n + k) pc L st M = some r := by
  intro n
  induction n with
  | zero => intro k pc L st M r h; cases h
  | succ n ih =>
    intro k pc L st M r h
    rw [show n + 1 + k = (n + k) + 1 by omega]
    unfold runN at h ⊢
    cases hn : nxt cf m pc L st M with
    | none => rw [hn] at h; cases h
    | some x =>
      rw [hn] at h
      cases x with
      | inl q => obtain ⟨a, b, c, d⟩ := q; exact ih k a b c d r h
      | inr q => exact h
theorem runN_det {cf : Nat → List Value → AM → Option AR} {m n k pc : Nat} {L st : List Value} {M : AM} {r r' : AR} (h : runN cf m n pc L st M = some r) (h' : runN cf m k pc L st M = some r') : r = r' := by
  have h1 := runN_mono cf m n k pc L st M r h
  have h2 := runN_mono cf m k n pc L st M r' h'
  rw [Nat.add_comm] at h2
  exact Option.some.inj (h1.symm.trans h2)
noncomputable def den (cf : Nat → List Value → AM → Option AR) (m pc : Nat) (L st : List Value) (M : AM) : Option AR :=
  runN cf m (Classical.epsilon (fun n => ∃ r, runN cf m n pc L st M = some r)) pc L st M
theorem den_of {cf : Nat → List Value → AM → Option AR} {m n pc : Nat} {L st : List Value} {M : AM} {r : AR} (h : runN cf m n pc L st M = some r) : den cf m pc L st M = some r := by
  obtain ⟨r', h'⟩ := Classical.epsilon_spec (p := fun n => ∃ r, runN cf m n pc L st M = some r) ⟨n, r, h⟩
  unfold den
  rw [h', runN_det h h']
theorem den_run {cf : Nat → List Value → AM → Option AR} {m pc : Nat} {L st : List Value} {M : AM} {r : AR} (h : den cf m pc L st M = some r) : ∃ n, runN cf m n pc L st M = some r := ⟨_, h⟩
theorem den_eq (cf : Nat → List Value → AM → Option AR) (m pc : Nat) (L st : List Value) (M : AM) : den cf m pc L st M = (match nxt cf m pc L st M with
    | none => none
    | some (.inl (a, b, c, d)) => den cf m a b c d
    | some (.inr r) => some r) := by
  have key : ∀ x : Option AR, (∀ r, den cf m pc L st M = some r → x = some r) → (∀ r, x = some r → den cf m pc L st M = some r) → den cf m pc L st M = x := by
    intro x h1 h2
    cases hd : den cf m pc L st M with
    | some r => exact (h1 r hd).symm
    | none =>
      cases x with
      | none => rfl
      | some r => rw [h2 r rfl] at hd; cases hd
  apply key
  · intro r h
    obtain ⟨n, hn⟩ := den_run h
    cases n with
    | zero => cases hn
    | succ n =>
      unfold runN at hn
      cases hx : nxt cf m pc L st M with
      | none => rw [hx] at hn; cases hn
      | some x =>
        rw [hx] at hn
        cases x with
        | inl q => obtain ⟨a, b, c, d⟩ := q; exact den_of hn
        | inr q => exact hn
  · intro r h
    cases hx : nxt cf m pc L st M with
    | none => rw [hx] at h; cases h
    | some x =>
      rw [hx] at h
      cases x with
      | inl q =>
        obtain ⟨a, b, c, d⟩ := q
        obtain ⟨n, hn⟩ := den_run h
        refine den_of (n := n + 1) ?_
        unfold runN
        rw [hx]
        exact hn
      | inr q =>
        refine den_of (n := 1) ?_
        unfold runN
        rw [hx]
        exact h
def chs (t : String) : List Nat := t.toList.map Char.toNat
def strF (l : List String) (b a : Nat) : Option (List Nat) := match l with
  | [] => none
  | t :: r => if a = b then some (chs t) else strF r (b + 1) a
def strT (a : Nat) : Option (List Nat) := strF strX 1000001 a
theorem strF_lt : ∀ (l : List String) (b a : Nat) (t : List Nat), strF l b a = some t → b ≤ a ∧ a < b + l.length ∧ ∃ x, l[a - b]? = some x ∧ t = chs x := by
  intro l
  induction l with
  | nil => intro b a t h; cases h
  | cons x r ih =>
    intro b a t h
    unfold strF at h
    by_cases e : a = b
    · rw [if_pos e] at h
      cases h
      subst e
      exact ⟨Nat.le_refl _, by simp, x, by rw [Nat.sub_self]; rfl, rfl⟩
    · rw [if_neg e] at h
      obtain ⟨h1, h2, y, h3, h4⟩ := ih (b + 1) a t h
      refine ⟨by omega, by simp only [List.length_cons]; omega, y, ?_, h4⟩
      rw [show a - b = (a - (b + 1)) + 1 by omega]
      exact h3
theorem strT_lt {a : Nat} {t : List Nat} (h : strT a = some t) : 1000001 ≤ a ∧ a < 1000008 := by
  obtain ⟨h1, h2, -⟩ := strF_lt strX 1000001 a t h
  have hs : strX.length = 7 := rfl
  rw [hs] at h2
  exact ⟨h1, Nat.lt_of_lt_of_le h2 (Nat.le_of_ble_eq_true rfl)⟩
def sLen (as : List Value) (M : AM) : Option AR := match as with
  | [.ref a] => if 1000000 < a then (match strT a with
    | some t => some (some (.int (Int32.ofNat t.length)), M)
    | none => none) else none
  | _ => none
def sAt (as : List Value) (M : AM) : Option AR := match as with
  | [.ref a, .int i] => if 1000000 < a ∧ 0 ≤ i.toInt then (match strT a with
    | some t => (match t[i.toNatClampNeg]? with
      | some x => some (some (.int (Int32.ofNat x)), M)
      | none => none)
    | none => none) else none
  | _ => none
noncomputable def callD (d y : Nat) (as : List Value) (M : AM) : Option AR := match d with
  | 0 => none
  | d + 1 => if y = 300 then sLen as M else if y = 301 then sAt as M else if (enL (mdL y) as).length = mdL y then den (callD d) y 0 (enL (mdL y) as) [] M else none
theorem callD_eq {d y : Nat} {as : List Value} {M : AM} (hy : y < 300) : callD (d + 1) y as M = if (enL (mdL y) as).length = mdL y then den (callD d) y 0 (enL (mdL y) as) [] M else none := by
  show (if y = 300 then sLen as M else if y = 301 then sAt as M else _) = _
  rw [if_neg (by omega), if_neg (by omega)]
