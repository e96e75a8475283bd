/-! how the abstract heap, values and locals stand for the real ones -/
def am (b0 : Nat) (xa : Nat → Nat) (k : Nat) : Nat := if k < 1000000 then b0 + k else xa (k - 1000000)
def cv (b0 : Nat) (xa : Nat → Nat) (v : Value) : Value := match v with
  | .ref a => .ref (am b0 xa a)
  | .int x => .int x
  | .long x => .long x
  | .null => .null
  | .float x => .float x
  | .double x => .double x
  | .retAddr x => .retAddr x
theorem cv_cat (b0 : Nat) (xa : Nat → Nat) (v : Value) : (cv b0 xa v).category = v.category := by cases v <;> rfl
theorem is2_cat (v : Value) : is2 v = true ↔ v.category = 2 := by cases v <;> simp [is2, Value.category]
theorem cv_rf (b0 : Nat) (xa : Nat → Nat) (r : Option Nat) : cv b0 xa (va_rf r) = va_rf (r.map (am b0 xa)) := by cases r <;> rfl
def cE (b0 : Nat) (xa : Nat → Nat) (dA : Nat → ClassId) (c : AC) : va_E := match c with
  | .inl (ci, fs) => .inr (ci, fs.map (cv b0 xa))
  | .inr (t, n, .inl f) => .inl (dA t, n, .inl f)
  | .inr (t, n, .inr (.inl f)) => .inl (dA t, n, .inr (.inl f))
  | .inr (t, n, .inr (.inr f)) => .inl (dA t, n, .inr (.inr (.inr (.inr (fun j => (f j).map (am b0 xa))))))
def aty (t : Nat) : FieldType := match t with
  | 0 => .int
  | 1 => .long
  | 2 => .object RX1
  | 3 => .object RX3
  | _ => .array .long
def tysA (dA : Nat → ClassId) : List (ClassId × FieldType) := [(dA 0, .int), (dA 1, .long), (dA 2, .object RX1), (dA 3, .object RX3), (dA 4, .array .long)]
theorem tysA_at (dA : Nat → ClassId) {t : Nat} (h : t < 5) : (tysA dA)[t]? = some (dA t, aty t) := by
  match t, h with
  | 0, _ => rfl
  | 1, _ => rfl
  | 2, _ => rfl
  | 3, _ => rfl
  | 4, _ => rfl
/-- the outside: the script, and nothing else -/
def xmD (sL : Nat) (sX : Nat → Int32) (k : Nat) : AC := if k = 1000000 then .inr (7, sL, .inl sX) else .inr (99, 0, .inl fun _ => 0)
def aoL (U : State) : Prop := (Cond.arrayOver (.array .long)).before #[] U = true
def KW (D : va_G) (dA : Nat → ClassId) (U : State) : Prop := va_K D clA (tysA dA) U ∧ va_AO RX1 U ∧ va_AO RX3 U ∧ aoL U
theorem aoL.moved {u U : State} (hvm : u.vm.Alike U.vm) (h : aoL u) : aoL U := by
  obtain ⟨comp, c, k, h1, h2, h3, h4, h5⟩ := arrayOverA_spec h
  obtain ⟨k', hk', he⟩ := hvm.2.2 _ _ h3
  have hi : (U.vm.classes.findIdx? fun (x : Class) => match x.kind with | .array component _ => component == comp | _ => false) = some c := by
    rw [hvm.findIdx?_eq _ (fun _ => rfl)]
    exact h2
  have hkind : k'.kind = .array comp (.array .long) := by rw [he]; exact h4
  have f1 : U.vm.findClass (FieldType.array .long).toString = some comp := by rw [hvm.findClass]; exact h1
  have f2 : U.vm.findClass ("[" ++ (FieldType.array .long).toString) = some c := by rw [hvm.findClass]; exact h5
  unfold aoL Cond.before Cond.holds
  simp only [Cond.value]
  rw [f1, Option.bind_some]
  refine (congrArg (fun o : Option Nat => (o.bind (fun c => (U.vm.classes[c]?).map fun (k : Class) => match k.kind with | .array _ ty => decide (ty = FieldType.array .long) && decide (U.vm.findClass ("[" ++ (FieldType.array .long).toString) = some c) | _ => false) == some true)) hi).trans ?_
  simp [hk', hkind, f2]
theorem KW.moved {D : va_G} {dA : Nat → ClassId} {u U : State} (hvm : u.vm.Alike U.vm) (h : KW D dA u) : KW D dA U := ⟨h.1.moved hvm, h.2.1.moved hvm, h.2.2.1.moved hvm, h.2.2.2.moved hvm⟩
def sLn : List Nat := strX.map String.length
def sBy : List (List Int32) := strX.map (fun t => (chs t).map Int32.ofNat)
/-- what lies outside our cells: the script and the constant texts -/
def SF (b0 : Nat) (xa : Nat → Nat) (sL : Nat) (sX : Nat → Int32) (U : State) (H : Heap) : Prop :=
  va_X (xa 0) sL sX U H ∧ xa 0 < b0 ∧ (∀ (j : Nat) (o : String) (i t : Nat), strW[j]? = some (o, i, t) → vk_R o i (strX.getD t "") (xa (1 + t)) U) ∧ vk_S 7 sLn sBy (fun j => xa (1 + j)) (fun j => xa (20 + j)) (fun q => b0 ≤ q) U H ∧ va_Z "java/lang/String" "COMPACT_STRINGS" "Z" (.int 1) (fun q => b0 ≤ q) U H ∧ va_Zq "jdk/internal/util/Preconditions" "SIOOBE_FORMATTER" "Ljava/util/function/BiFunction;" (fun q => b0 ≤ q) U H
theorem SF.kept {b0 : Nat} {xa : Nat → Nat} {sL : Nat} {sX : Nat → Int32} {U : State} {H H1 : Heap} (hb : b0 ≤ H.size) (h : SF b0 xa sL sX U H) (hq : ∀ q : Nat, q < b0 → H1[q]? = H[q]?) : SF b0 xa sL sX U H1 :=
  ⟨h.1.kept (hq _ h.2.1), h.2.1, h.2.2.1, h.2.2.2.1.kept (fun a _ h2 => hq a (Nat.lt_of_not_le h2)), h.2.2.2.2.1.kept (fun a _ h2 => hq a (Nat.lt_of_not_le h2)), h.2.2.2.2.2.kept (fun a _ h2 => hq a (Nat.lt_of_not_le h2))⟩
theorem SF.warm {b0 : Nat} {xa : Nat → Nat} {sL : Nat} {sX : Nat → Int32} {s U : State} {H : Heap} (hW : s.WarmedH U.vm) (h : SF b0 xa sL sX s H) : SF b0 xa sL sX U H :=
  ⟨h.1.moved hW.alike, h.2.1, fun j o i t hj => (h.2.2.1 j o i t hj).warm hW, h.2.2.2.1.moved hW.alike, h.2.2.2.2.1.moved hW.alike, h.2.2.2.2.2.moved hW.alike⟩
theorem SF.same {b0 : Nat} {xa : Nat → Nat} {sL : Nat} {sX : Nat → Int32} {u U : State} {H : Heap} (hv : U.vm = u.vm) (h : SF b0 xa sL sX u H) : SF b0 xa sL sX U H :=
  ⟨h.1.moved (by rw [hv]; exact Vm.Alike.refl _), h.2.1, fun j o i t hj => (h.2.2.1 j o i t hj).same hv, h.2.2.2.1.moved (by rw [hv]; exact Vm.Alike.refl _), h.2.2.2.2.1.moved (by rw [hv]; exact Vm.Alike.refl _), h.2.2.2.2.2.moved (by rw [hv]; exact Vm.Alike.refl _)⟩
/-- an array of ours is of one of the five kinds -/
def okT (c : AC) : Prop := match c with
  | .inl _ => True
  | .inr (t, _, f) => (match f with
    | .inl _ => t = 0
    | .inr (.inl _) => t = 1
    | .inr (.inr _) => t = 2 ∨ t = 3 ∨ t = 4)
def Rp (D : va_G) (dA : Nat → ClassId) (b0 : Nat) (xa : Nat → Nat) (sL : Nat) (sX : Nat → Int32) (M : AM) (H : Heap) : Prop :=
  H.size = b0 + M.1 ∧ (∀ k, k < M.1 → va_at D clA (b0 + k, cE b0 xa dA (M.2.2 k)) H ∧ okT (M.2.2 k)) ∧ (∀ k, M.1 ≤ k → M.2.2 k = xmD sL sX k) ∧ M.1 < 700000
theorem xm_cases (sL : Nat) (sX : Nat → Int32) (k : Nat) : (k = 1000000 ∧ xmD sL sX k = .inr (7, sL, .inl sX)) ∨ xmD sL sX k = .inr (99, 0, .inl fun _ => 0) := by
  unfold xmD
  by_cases h : k = 1000000
  · exact Or.inl ⟨h, if_pos h⟩
  · exact Or.inr (if_neg h)
theorem am_lt {b0 k : Nat} {xa : Nat → Nat} (h : k < 700000) : am b0 xa k = b0 + k := if_pos (by omega)
section RP
variable {D : va_G} {dA : Nat → ClassId} {b0 : Nat} {xa : Nat → Nat} {sL : Nat} {sX : Nat → Int32} {M : AM} {H H1 : Heap}
theorem Rp.inlt (h : Rp D dA b0 xa sL sX M H) {a : Nat} {q : Nat × List Value} (ha : M.2.2 a = .inl q) : a < M.1 := by
  apply Nat.lt_of_not_le
  intro hle
  rcases xm_cases sL sX a with ⟨-, e⟩ | e <;> rw [h.2.2.1 a hle, e] at ha <;> cases ha
theorem Rp.arlt (h : Rp D dA b0 xa sL sX M H) {a t n : Nat} {f} (ha : M.2.2 a = .inr (t, n, f)) (ht : t < 7) : a < M.1 := by
  apply Nat.lt_of_not_le
  intro hle
  rcases xm_cases sL sX a with ⟨-, e⟩ | e <;> rw [h.2.2.1 a hle, e] at ha <;> cases ha <;> omega
theorem Rp.at (h : Rp D dA b0 xa sL sX M H) {a : Nat} (ha : a < M.1) : va_at D clA (am b0 xa a, cE b0 xa dA (M.2.2 a)) H := by
  rw [am_lt (by have := h.2.2.2; omega)]
  exact (h.2.1 a ha).1
/-- one cell's picture, as a world of one -/
theorem one_P {cl : List vw_C} {q : Nat × va_E} (h : va_at D cl q H) : va_P D cl [q] H := by
  intro k x hx
  cases k with
  | zero => cases hx; exact h
  | succ k => cases hx
theorem Rp.put (h : Rp D dA b0 xa sL sX M H) {a : Nat} {c : AC} (ha : a < M.1) (hc : okT c) (he : va_at D clA (am b0 xa a, cE b0 xa dA c) H1) (hz : H1.size = H.size) (hq : ∀ q : Nat, q ≠ am b0 xa a → H1[q]? = H[q]?) : Rp D dA b0 xa sL sX (mU M a c) H1 := by
  have e0 : am b0 xa a = b0 + a := am_lt (by have := h.2.2.2; omega)
  refine ⟨by rw [hz]; exact h.1, fun k hk => ?_, fun k hk => ?_, h.2.2.2⟩
  · show va_at D clA (b0 + k, cE b0 xa dA (if k = a then c else M.2.2 k)) H1 ∧ okT (if k = a then c else M.2.2 k)
    by_cases e : k = a
    · rw [if_pos e, e, ← e0]
      exact ⟨he, hc⟩
    · rw [if_neg e]
      exact ⟨(h.2.1 k hk).1.kept (hq (b0 + k) (by rw [e0]; omega)), (h.2.1 k hk).2⟩
  · show (if k = a then c else M.2.2 k) = _
    rw [if_neg (by have : M.1 ≤ k := hk; omega)]
    exact h.2.2.1 k hk
theorem Rp.new (h : Rp D dA b0 xa sL sX M H) {c : AC} {n : Nat} (hlt : M.1 < 600000) (hc : okT c) (he : va_at D clA (H.size, cE b0 xa dA c) H1) (hz : H1.size = H.size + 1) (hq : ∀ q : Nat, q < H.size → H1[q]? = H[q]?) : Rp D dA b0 xa sL sX (mN M n c) H1 := by
  have hs := h.1
  refine ⟨by rw [hz, hs]; rfl, fun k hk => ?_, fun k hk => ?_, by show M.1 + 1 < 700000; omega⟩
  · have hk : k < M.1 + 1 := hk
    show va_at D clA (b0 + k, cE b0 xa dA (if k = M.1 then c else M.2.2 k)) H1 ∧ okT (if k = M.1 then c else M.2.2 k)
    by_cases e : k = M.1
    · rw [if_pos e, e, ← hs]
      exact ⟨he, hc⟩
    · rw [if_neg e]
      exact ⟨(h.2.1 k (by omega)).1.kept (hq (b0 + k) (by omega)), (h.2.1 k (by omega)).2⟩
  · have hk : M.1 + 1 ≤ k := hk
    show (if k = M.1 then c else M.2.2 k) = _
    rw [if_neg (by omega)]
    exact h.2.2.1 k (by omega)
end RP
/-! locals -/
def hasL (b0 : Nat) (xa : Nat → Nat) (ls : Array Slot) (L : List Value) : Prop := ls.size = L.length ∧ lv_wf ls ∧ ∀ (i : Nat) (v : Value), L[i]? = some v → v ≠ uu → ls[i]? = some (.val (cv b0 xa v))
def ascL (b0 : Nat) (xa : Nat → Nat) (L : List Value) : List (Nat × Value) := (List.range L.length).filterMap (fun i => match L[i]? with
  | some v => if v = uu then none else some (i, cv b0 xa v)
  | none => none)
theorem ascL_mem {b0 : Nat} {xa : Nat → Nat} {L : List Value} {i : Nat} {v : Value} (h : L[i]? = some v) (hv : v ≠ uu) : (i, cv b0 xa v) ∈ ascL b0 xa L := by
  have hl := (List.getElem?_eq_some_iff.mp h).1
  refine List.mem_filterMap.mpr ⟨i, List.mem_range.mpr hl, ?_⟩
  rw [h]
  exact if_neg hv
theorem ascL_inv {b0 : Nat} {xa : Nat → Nat} {L : List Value} {q : Nat × Value} (h : q ∈ ascL b0 xa L) : ∃ v, L[q.1]? = some v ∧ v ≠ uu ∧ q.2 = cv b0 xa v := by
  obtain ⟨i, -, hi⟩ := List.mem_filterMap.mp h
  cases hL : L[i]? with
  | none => rw [hL] at hi; cases hi
  | some v =>
    rw [hL] at hi
    dsimp only at hi
    by_cases hu : v = uu
    · rw [if_pos hu] at hi; cases hi
    · rw [if_neg hu] at hi; cases hi; exact ⟨v, hL, hu, rfl⟩
theorem hasL.asc {b0 : Nat} {xa : Nat → Nat} {ls : Array Slot} {L : List Value} (h : hasL b0 xa ls L) : lv_has ls L.length (ascL b0 xa L) := by
  refine ⟨h.1, h.2.1, fun q hq => ?_⟩
  obtain ⟨v, h1, h2, h3⟩ := ascL_inv hq
  rw [h3]
  exact h.2.2 q.1 v h1 h2
theorem kl_at {L : List Value} {i j : Nat} {v : Value} (h : (kl L i)[j]? = some v) (hv : v ≠ uu) : L[j]? = some v ∧ ¬ (j + 1 = i ∧ v.category = 2) := by
  cases i with
  | zero => exact ⟨h, fun q => by have := q.1; omega⟩
  | succ i =>
    unfold kl at h
    dsimp only at h
    cases hL : L[i]? with
    | none =>
      rw [hL] at h
      refine ⟨h, fun q => ?_⟩
      have : j = i := by omega
      rw [this, hL] at h
      cases h
    | some w =>
      rw [hL] at h
      dsimp only at h
      by_cases h2 : is2 w = true
      · rw [if_pos h2] at h
        by_cases hj : j = i
        · have hl := (List.getElem?_eq_some_iff.mp hL).1
          rw [hj, List.getElem?_set_self hl] at h
          exact absurd (Option.some.inj h).symm hv
        · rw [List.getElem?_set_ne (Ne.symm hj)] at h
          exact ⟨h, fun q => hj (by omega)⟩
      · rw [if_neg h2] at h
        refine ⟨h, fun q => ?_⟩
        have : j = i := by omega
        rw [this, hL] at h
        cases h
        exact h2 ((is2_cat _).mpr q.2)
theorem kl_len (L : List Value) (i : Nat) : (kl L i).length = L.length := by
  cases i with
  | zero => rfl
  | succ i =>
    unfold kl
    dsimp only
    split
    · split
      · exact List.length_set
      · rfl
    · rfl
theorem hasL.st1 {b0 : Nat} {xa : Nat → Nat} {ls : Array Slot} {L : List Value} {i : Nat} {v : Value} (hi : i < L.length)
    (h : lv_has ls L.length ((i, cv b0 xa v) :: (ascL b0 xa L).filter (fun q => !(q.1 == i) && !(q.1 + 1 == i && q.2.category == 2)))) : hasL b0 xa ls (st1 L i v) := by
  refine ⟨by rw [h.1]; simp [_root_.Jvm.Pilot.CDearPenFriendLaw_law_r5843_b3c90c.st1, kl_len], h.2.1, fun j w hw hu => ?_⟩
  by_cases e : j = i
  · rw [e] at hw ⊢
    rw [_root_.Jvm.Pilot.CDearPenFriendLaw_law_r5843_b3c90c.st1, List.getElem?_set_self (by rw [kl_len]; exact hi)] at hw
    cases hw
    exact h.2.2 (i, cv b0 xa v) List.mem_cons_self
  · rw [_root_.Jvm.Pilot.CDearPenFriendLaw_law_r5843_b3c90c.st1, List.getElem?_set_ne (Ne.symm e)] at hw
    obtain ⟨h1, h2⟩ := kl_at hw hu
    refine h.2.2 (j, cv b0 xa w) (List.mem_cons_of_mem _ (List.mem_filter.mpr ⟨ascL_mem h1 hu, ?_⟩))
    rw [cv_cat]
    simp only [Bool.and_eq_true, Bool.not_eq_true', beq_eq_false_iff_ne, ne_eq, Bool.and_eq_false_iff]
    refine ⟨e, ?_⟩
    by_cases e2 : j + 1 = i
    · exact Or.inr (fun z => h2 ⟨e2, z⟩)
    · exact Or.inl e2
theorem hasL.st2 {b0 : Nat} {xa : Nat → Nat} {ls : Array Slot} {L : List Value} {i : Nat} {v : Value} (hi : i + 1 < L.length)
    (h : lv_has ls L.length ((i, cv b0 xa v) :: (ascL b0 xa L).filter (fun q => !(q.1 == i) && (!(q.1 == i + 1) && !(q.1 + 1 == i && q.2.category == 2))))) : hasL b0 xa ls (st2 L i v) := by
  refine ⟨by rw [h.1]; simp [_root_.Jvm.Pilot.CDearPenFriendLaw_law_r5843_b3c90c.st2, kl_len], h.2.1, fun j w hw hu => ?_⟩
  by_cases e : j = i
  · rw [e] at hw ⊢
    rw [_root_.Jvm.Pilot.CDearPenFriendLaw_law_r5843_b3c90c.st2, List.getElem?_set_self (by rw [List.length_set, kl_len]; omega)] at hw
    cases hw
    exact h.2.2 (i, cv b0 xa v) List.mem_cons_self
  · rw [_root_.Jvm.Pilot.CDearPenFriendLaw_law_r5843_b3c90c.st2, List.getElem?_set_ne (Ne.symm e)] at hw
    by_cases e1 : j = i + 1
    · rw [e1, List.getElem?_set_self (by rw [kl_len]; exact hi)] at hw
      exact absurd (Option.some.inj hw).symm hu
    · rw [List.getElem?_set_ne (Ne.symm e1)] at hw
      obtain ⟨h1, h2⟩ := kl_at hw hu
      refine h.2.2 (j, cv b0 xa w) (List.mem_cons_of_mem _ (List.mem_filter.mpr ⟨ascL_mem h1 hu, ?_⟩))
      rw [cv_cat]
      simp only [Bool.and_eq_true, Bool.not_eq_true', beq_eq_false_iff_ne, ne_eq, Bool.and_eq_false_iff]
      refine ⟨e, e1, ?_⟩
      by_cases e2 : j + 1 = i
      · exact Or.inr (fun z => h2 ⟨e2, z⟩)
      · exact Or.inl e2
theorem enL_args (b0 : Nat) (xa : Nat → Nat) : ∀ (as : List Value) (n o i : Nat) (v : Value), (enL n as)[i]? = some v → v ≠ uu → (o + i, cv b0 xa v) ∈ lv_args o (as.map (cv b0 xa)) := by
  intro as
  induction as with
  | nil =>
    intro n o i v h hv
    unfold enL at h
    have := List.eq_of_mem_replicate (List.mem_of_getElem? h)
    exact absurd this hv
  | cons w ws ih =>
    intro n o i v h hv
    unfold enL at h
    rw [List.map_cons]
    unfold lv_args
    rw [cv_cat]
    by_cases h2 : is2 w = true
    · rw [if_pos h2] at h
      have hc := (is2_cat w).mp h2
      rw [if_pos hc]
      match i, h with
      | 0, h => cases h; exact List.mem_cons_self
      | 1, h => exact absurd (Option.some.inj h).symm hv
      | i + 2, h =>
        have h : (enL (n - 2) ws)[i]? = some v := h
        have := ih (n - 2) (o + 2) i v h hv
        rw [show o + (i + 2) = o + 2 + i by omega]
        exact List.mem_cons_of_mem _ this
    · rw [if_neg h2] at h
      have hc : ¬ w.category = 2 := fun q => h2 ((is2_cat w).mpr q)
      rw [if_neg hc]
      match i, h with
      | 0, h => cases h; exact List.mem_cons_self
      | i + 1, h =>
        have h : (enL (n - 1) ws)[i]? = some v := h
        have := ih (n - 1) (o + 1) i v h hv
        rw [show o + (i + 1) = o + 1 + i by omega]
        exact List.mem_cons_of_mem _ this
theorem enL_size (as : List Value) : ∀ n, (enL n as).length = n → (lg_sl as).length ≤ n := by
  induction as with
  | nil => intro n _; simp [lg_sl]
  | cons w ws ih =>
    intro n h
    unfold enL at h
    by_cases h2 : is2 w = true
    · rw [if_pos h2] at h
      have hc := (is2_cat w).mp h2
      simp only [List.length_cons] at h
      have h3 : (enL (n - 2) ws).length = n - 2 := by omega
      have := ih (n - 2) h3
      have e : lg_sl (w :: ws) = [.val w, .second] ++ lg_sl ws := by simp [lg_sl, hc]
      rw [e]
      simp only [List.length_append, List.length_cons, List.length_nil]
      omega
    · rw [if_neg h2] at h
      have hc : ¬ w.category = 2 := fun q => h2 ((is2_cat w).mpr q)
      simp only [List.length_cons] at h
      have h3 : (enL (n - 1) ws).length = n - 1 := by omega
      have := ih (n - 1) h3
      have e : lg_sl (w :: ws) = [.val w] ++ lg_sl ws := by simp [lg_sl, hc]
      rw [e]
      simp only [List.length_append, List.length_cons, List.length_nil]
      omega
theorem lg_sl_cv (b0 : Nat) (xa : Nat → Nat) (as : List Value) : (lg_sl (as.map (cv b0 xa))).length = (lg_sl as).length := by
  induction as with
  | nil => rfl
  | cons w ws ih =>
    have e : ∀ (z : Value) (zs : List Value), (lg_sl (z :: zs)).length = (if z.category = 2 then 2 else 1) + (lg_sl zs).length := by
      intro z zs
      by_cases hc : z.category = 2 <;> simp [lg_sl, hc] <;> omega
    rw [List.map_cons, e, e, ih, cv_cat]
theorem hasL.entry {b0 : Nat} {xa : Nat → Nat} {as : List Value} {n : Nat} (h : (enL n as).length = n) : hasL b0 xa ((lg_sl (as.map (cv b0 xa)) ++ List.replicate (n - (lg_sl (as.map (cv b0 xa))).length) Slot.unset).toArray) (enL n as) := by
  have h1 := lv_entry (as.map (cv b0 xa)) (n := n) (by rw [lg_sl_cv]; exact enL_size as n h)
  refine ⟨by rw [h1.1, h], h1.2.1, fun i v hi hv => ?_⟩
  have := enL_args b0 xa as n 0 i v hi hv
  rw [Nat.zero_add] at this
  exact h1.2.2 (i, cv b0 xa v) this
