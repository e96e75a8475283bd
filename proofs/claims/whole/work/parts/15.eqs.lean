/-! the abstract machine by equations: one for each kind of instruction -/
def oK {α : Type} (o : Option α) (k : α → Option AR) : Option AR := match o with
  | some x => k x
  | none => none
def oN {β : Type} (o : Option Nat) (a b : β) : β := match o with
  | none => a
  | some _ => b
def rK (o : Option AR) (k : Option Value → AM → Option AR) : Option AR := match o with
  | some (v, M) => k v M
  | none => none
def pR (v : Option Value) (st : List Value) : List Value := match v with
  | some x => x :: st
  | none => st
def kq (v : Value) : Value := if is2 v = true then uu else v
theorem oK_some {α : Type} (x : α) (k : α → Option AR) : oK (some x) k = k x := rfl
theorem oK_none {α : Type} (k : α → Option AR) : oK none k = none := rfl
theorem oN_none {β : Type} (a b : β) : oN none a b = a := rfl
theorem oN_some {β : Type} (x : Nat) (a b : β) : oN (some x) a b = b := rfl
theorem rK_some (v : Option Value) (M : AM) (k : Option Value → AM → Option AR) : rK (some (v, M)) k = k v M := rfl
theorem pR_some (v : Value) (st : List Value) : pR (some v) st = v :: st := rfl
theorem pR_none (st : List Value) : pR none st = st := rfl
theorem kq_i (x : Int32) : kq (.int x) = .int x := rfl
theorem kq_r (x : Addr) : kq (.ref x) = .ref x := rfl
theorem kq_n : kq .null = .null := rfl
theorem kq_u : kq uu = uu := rfl
theorem kq_o (o : Option Nat) : kq (va_rf o) = va_rf o := by cases o <;> rfl
theorem kq_l (x : Int64) : kq (.long x) = uu := rfl
theorem isRf_r (x : Addr) : isRf (.ref x) = true := rfl
theorem isRf_n : isRf .null = true := rfl
theorem isRf_o (o : Option Nat) : isRf (va_rf o) = true := by cases o <;> rfl
theorem okv_r (x : Addr) : okv 2 (.ref x) = true := rfl
theorem okv_n : okv 2 .null = true := rfl
theorem okv_o (o : Option Nat) : okv 2 (va_rf o) = true := by cases o <;> rfl
theorem zI_0 : zI 0 = 0 := by decide +kernel
theorem zI_1 : zI 1 = 1 := by decide +kernel
def st1r (L : List Value) (i : Nat) (v : Value) : List Value := match L, i with
  | [], _ => []
  | _ :: L, 0 => v :: L
  | a :: L, k + 1 => (if k = 0 then kq a else a) :: st1r L k v
theorem st1r_eq : ∀ (L : List Value) (i : Nat) (v : Value), st1 L i v = st1r L i v := by
  intro L
  induction L with
  | nil => intro i v; cases i <;> simp [st1, kl, st1r]
  | cons a L ih =>
    intro i v
    match i with
    | 0 => rfl
    | 1 =>
      cases L with
      | nil =>
        unfold st1 kl st1r st1r kq
        simp only [List.getElem?_cons_zero]
        by_cases h : is2 a = true <;> simp [h]
      | cons b L =>
        unfold st1 kl st1r st1r kq
        simp only [List.getElem?_cons_zero]
        by_cases h : is2 a = true <;> simp [h]
    | k + 2 =>
      have h := ih (k + 1) v
      unfold st1r
      rw [← h, if_neg (by omega)]
      unfold st1 kl
      simp only [List.getElem?_cons_succ]
      cases hL : L[k]? with
      | none => simp
      | some w =>
        dsimp only
        by_cases h2 : is2 w = true <;> simp [h2]
section EQ
variable {cf : Nat → List Value → AM → Option AR} {m pc len : Nat} {i : Instr} {ax : List Nat} {cst : Value} {L st : List Value} {M : AM}
theorem den_nx (h : look (tab m) pc = some (i, len, ax, cst)) : den cf m pc L st M = (match nx cf i len ax cst pc L st M with
    | none => none
    | some (.inl (a, b, c, d)) => den cf m a b c d
    | some (.inr r) => some r) := by
  rw [den_eq]
  unfold nxt
  rw [h]
  rfl
theorem den_go {a : Nat} {b c : List Value} {d : AM} (h : look (tab m) pc = some (i, len, ax, cst)) (hx : nx cf i len ax cst pc L st M = some (.inl (a, b, c, d))) : den cf m pc L st M = den cf m a b c d := by
  rw [den_nx h, hx]
theorem den_st {a k : Nat} {v : Value} {c : List Value} {d : AM} (h : look (tab m) pc = some (i, len, ax, cst)) (hx : nx cf i len ax cst pc L st M = some (.inl (a, st1 L k v, c, d))) : den cf m pc L st M = den cf m a (st1r L k v) c d := by
  rw [den_nx h, hx, st1r_eq]
theorem den_g {p : Prop} {hp : Decidable p} {a : Nat} {b c : List Value} {d : AM} (h : look (tab m) pc = some (i, len, ax, cst)) (hx : nx cf i len ax cst pc L st M = if p then some (.inl (a, b, c, d)) else none) : den cf m pc L st M = if p then den cf m a b c d else none := by
  rw [den_nx h, hx]
  by_cases q : p
  · rw [if_pos q, if_pos q]
  · rw [if_neg q, if_neg q]
theorem den_gs {p : Prop} {hp : Decidable p} {k : Nat} {v : Value} {a : Nat} {c : List Value} {d : AM} (h : look (tab m) pc = some (i, len, ax, cst)) (hx : nx cf i len ax cst pc L st M = if p then some (.inl (a, st1 L k v, c, d)) else none) : den cf m pc L st M = if p then den cf m a (st1r L k v) c d else none := by
  rw [den_nx h, hx]
  by_cases q : p
  · rw [if_pos q, if_pos q, st1r_eq]
  · rw [if_neg q, if_neg q]
theorem den_b {p : Prop} {hp : Decidable p} {t f : Nat} {c : List Value} {d : AM} (h : look (tab m) pc = some (i, len, ax, cst)) (hx : nx cf i len ax cst pc L st M = some (.inl (if p then t else f, L, c, d))) : den cf m pc L st M = if p then den cf m t L c d else den cf m f L c d := by
  rw [den_nx h, hx]
  by_cases q : p
  · rw [if_pos q, if_pos q]
  · rw [if_neg q, if_neg q]
theorem den_if_eq {x : Int32} {off : Int} (h : look (tab m) pc = some (.ifCond .eq off, len, ax, cst)) : den cf m pc L (.int x :: st) M = if x = zI 0 then den cf m (ax.headD 0) L st M else den cf m (pc + len) L st M := by
  rw [zI_0]; exact den_b h rfl
theorem den_if_ne {x : Int32} {off : Int} (h : look (tab m) pc = some (.ifCond .ne off, len, ax, cst)) : den cf m pc L (.int x :: st) M = if x = zI 0 then den cf m (pc + len) L st M else den cf m (ax.headD 0) L st M := by
  rw [zI_0, den_b (p := ¬ x = 0) (hp := inferInstance) h rfl]
  by_cases q : x = 0 <;> simp [q]
theorem den_if_lt {x : Int32} {off : Int} (h : look (tab m) pc = some (.ifCond .lt off, len, ax, cst)) : den cf m pc L (.int x :: st) M = if x < zI 0 then den cf m (ax.headD 0) L st M else den cf m (pc + len) L st M := by
  rw [zI_0]; exact den_b h rfl
theorem den_if_ge {x : Int32} {off : Int} (h : look (tab m) pc = some (.ifCond .ge off, len, ax, cst)) : den cf m pc L (.int x :: st) M = if x < zI 0 then den cf m (pc + len) L st M else den cf m (ax.headD 0) L st M := by
  rw [zI_0, den_b (p := (0 : Int32) ≤ x) (hp := inferInstance) h rfl]
  by_cases q : x < 0
  · rw [if_pos q, if_neg (Int32.not_le.mpr q)]
  · rw [if_neg q, if_pos (Int32.not_lt.mp q)]
theorem den_if_gt {x : Int32} {off : Int} (h : look (tab m) pc = some (.ifCond .gt off, len, ax, cst)) : den cf m pc L (.int x :: st) M = if zI 0 < x then den cf m (ax.headD 0) L st M else den cf m (pc + len) L st M := by
  rw [zI_0]; exact den_b h rfl
theorem den_if_le {x : Int32} {off : Int} (h : look (tab m) pc = some (.ifCond .le off, len, ax, cst)) : den cf m pc L (.int x :: st) M = if zI 0 < x then den cf m (pc + len) L st M else den cf m (ax.headD 0) L st M := by
  rw [zI_0, den_b (p := x ≤ (0 : Int32)) (hp := inferInstance) h rfl]
  by_cases q : 0 < x
  · rw [if_pos q, if_neg (Int32.not_le.mpr q)]
  · rw [if_neg q, if_pos (Int32.not_lt.mp q)]
theorem den_ic_eq {x y : Int32} {off : Int} (h : look (tab m) pc = some (.if_icmp .eq off, len, ax, cst)) : den cf m pc L (.int y :: .int x :: st) M = if x = y then den cf m (ax.headD 0) L st M else den cf m (pc + len) L st M := den_b h rfl
theorem den_ic_ne {x y : Int32} {off : Int} (h : look (tab m) pc = some (.if_icmp .ne off, len, ax, cst)) : den cf m pc L (.int y :: .int x :: st) M = if x = y then den cf m (pc + len) L st M else den cf m (ax.headD 0) L st M := by
  rw [den_b (p := ¬ x = y) (hp := inferInstance) h rfl]
  by_cases q : x = y <;> simp [q]
theorem den_ic_lt {x y : Int32} {off : Int} (h : look (tab m) pc = some (.if_icmp .lt off, len, ax, cst)) : den cf m pc L (.int y :: .int x :: st) M = if x < y then den cf m (ax.headD 0) L st M else den cf m (pc + len) L st M := den_b h rfl
theorem den_ic_ge {x y : Int32} {off : Int} (h : look (tab m) pc = some (.if_icmp .ge off, len, ax, cst)) : den cf m pc L (.int y :: .int x :: st) M = if x < y then den cf m (pc + len) L st M else den cf m (ax.headD 0) L st M := by
  rw [den_b (p := y ≤ x) (hp := inferInstance) h rfl]
  by_cases q : x < y
  · rw [if_pos q, if_neg (Int32.not_le.mpr q)]
  · rw [if_neg q, if_pos (Int32.not_lt.mp q)]
theorem den_ic_gt {x y : Int32} {off : Int} (h : look (tab m) pc = some (.if_icmp .gt off, len, ax, cst)) : den cf m pc L (.int y :: .int x :: st) M = if y < x then den cf m (ax.headD 0) L st M else den cf m (pc + len) L st M := den_b h rfl
theorem den_ic_le {x y : Int32} {off : Int} (h : look (tab m) pc = some (.if_icmp .le off, len, ax, cst)) : den cf m pc L (.int y :: .int x :: st) M = if y < x then den cf m (pc + len) L st M else den cf m (ax.headD 0) L st M := by
  rw [den_b (p := x ≤ y) (hp := inferInstance) h rfl]
  by_cases q : y < x
  · rw [if_pos q, if_neg (Int32.not_le.mpr q)]
  · rw [if_neg q, if_pos (Int32.not_lt.mp q)]
theorem den_nu {o : Option Nat} {off : Int} (h : look (tab m) pc = some (.ifnull off, len, ax, cst)) : den cf m pc L (va_rf o :: st) M = oN o (den cf m (ax.headD 0) L st M) (den cf m (pc + len) L st M) := by
  cases o <;> exact den_go h rfl
theorem den_nn {o : Option Nat} {off : Int} (h : look (tab m) pc = some (.ifnonnull off, len, ax, cst)) : den cf m pc L (va_rf o :: st) M = oN o (den cf m (pc + len) L st M) (den cf m (ax.headD 0) L st M) := by
  cases o <;> exact den_go h rfl
theorem den_gf {q ix ci k : Nat} {r : List Nat} (h : look (tab m) pc = some (.getfield ix, len, ci :: k :: r, cst)) : den cf m pc L (.ref q :: st) M = oK (gfA (M.2.2 q) ci k) (fun v => den cf m (pc + len) L (v :: st) M) := by
  rw [den_nx h]
  show (match nx_gf ci k (pc + len) L (.ref q :: st) M with | none => none | some (.inl (a, b, c, d)) => den cf m a b c d | some (.inr r) => some r) = _
  unfold nx_gf
  dsimp only
  cases gfA (M.2.2 q) ci k <;> rfl
theorem den_pf {q ix ci k tc : Nat} {r : List Nat} {v : Value} (h : look (tab m) pc = some (.putfield ix, len, ci :: k :: tc :: r, cst)) : den cf m pc L (v :: .ref q :: st) M = if okv tc v = true then oK (pfA (M.2.2 q) ci k v) (fun c => den cf m (pc + len) L st (mU M q c)) else none := by
  rw [den_nx h]
  show (match nx_pf ci k tc (pc + len) L (v :: .ref q :: st) M with | none => none | some (.inl (a, b, c, d)) => den cf m a b c d | some (.inr r) => some r) = _
  unfold nx_pf
  dsimp only
  by_cases hv : okv tc v = true
  · rw [if_pos hv, if_pos hv]
    cases pfA (M.2.2 q) ci k v <;> rfl
  · rw [if_neg hv, if_neg hv]
theorem den_al {g : AC → Int32 → Option Value} {q : Nat} {j : Int32} {a : Nat} (h : look (tab m) pc = some (i, len, ax, cst)) (hx : nx cf i len ax cst pc L (.int j :: .ref q :: st) M = nx_al g a L (.int j :: .ref q :: st) M) : den cf m pc L (.int j :: .ref q :: st) M = oK (g (M.2.2 q) j) (fun v => den cf m a L (v :: st) M) := by
  rw [den_nx h, hx]
  unfold nx_al
  dsimp only
  cases g (M.2.2 q) j <;> rfl
theorem den_is {q : Nat} {j x : Int32} (h : look (tab m) pc = some (.iastore, len, ax, cst)) : den cf m pc L (.int x :: .int j :: .ref q :: st) M = oK (stI (M.2.2 q) j x) (fun c => den cf m (pc + len) L st (mU M q c)) := by
  rw [den_nx h]
  show (match nx_is (pc + len) L (.int x :: .int j :: .ref q :: st) M with | none => none | some (.inl (a, b, c, d)) => den cf m a b c d | some (.inr r) => some r) = _
  unfold nx_is
  dsimp only
  cases stI (M.2.2 q) j x <;> rfl
theorem den_js {q : Nat} {j : Int32} {x : Int64} (h : look (tab m) pc = some (.lastore, len, ax, cst)) : den cf m pc L (.long x :: .int j :: .ref q :: st) M = oK (stJ (M.2.2 q) j x) (fun c => den cf m (pc + len) L st (mU M q c)) := by
  rw [den_nx h]
  show (match nx_js (pc + len) L (.long x :: .int j :: .ref q :: st) M with | none => none | some (.inl (a, b, c, d)) => den cf m a b c d | some (.inr r) => some r) = _
  unfold nx_js
  dsimp only
  cases stJ (M.2.2 q) j x <;> rfl
theorem den_qs {q : Nat} {j : Int32} {v : Value} (h : look (tab m) pc = some (.aastore, len, ax, cst)) : den cf m pc L (v :: .int j :: .ref q :: st) M = oK (stQ M (M.2.2 q) j v) (fun c => den cf m (pc + len) L st (mU M q c)) := by
  rw [den_nx h]
  show (match nx_qs (pc + len) L (v :: .int j :: .ref q :: st) M with | none => none | some (.inl (a, b, c, d)) => den cf m a b c d | some (.inr r) => some r) = _
  unfold nx_qs
  dsimp only
  cases stQ M (M.2.2 q) j v <;> rfl
theorem den_len {q : Nat} (h : look (tab m) pc = some (.arraylength, len, ax, cst)) : den cf m pc L (.ref q :: st) M = oK (lenA (M.2.2 q)) (fun n => den cf m (pc + len) L (.int (zI n) :: st) M) := by
  rw [den_nx h]
  show (match nx_len (pc + len) L (.ref q :: st) M with | none => none | some (.inl (a, b, c, d)) => den cf m a b c d | some (.inr r) => some r) = _
  unfold nx_len
  dsimp only
  cases lenA (M.2.2 q) with
  | none => rfl
  | some n =>
    show den cf m (pc + len) L (.int (Int32.ofNat n) :: st) M = den cf m (pc + len) L (.int (zI n) :: st) M
    rw [show Int32.ofNat n = zI n from (Int32.ofInt_eq_ofNat (n := n)).symm]
theorem den_iv {ix ci y n : Nat} {r : List Nat} (as : List Value) {a : Nat} (h : look (tab m) pc = some (.invokevirtual ix, len, ci :: y :: n :: r, cst)) (hn : (Value.ref a :: as).length = n) : den cf m pc L ((Value.ref a :: as).reverse ++ st) M = if rcv M ci (Value.ref a :: as) = true ∧ st.length ≤ 4 then rK (cf y (Value.ref a :: as) M) (fun v M' => den cf m (pc + len) L (pR v st) M') else none := by
  rw [den_nx h]
  show (match nx_inv cf true ci y n (pc + len) L ((Value.ref a :: as).reverse ++ st) M with | none => none | some (.inl (a, b, c, d)) => den cf m a b c d | some (.inr r) => some r) = _
  have h1 : (((Value.ref a :: as).reverse ++ st).take n).reverse = Value.ref a :: as := by rw [List.take_left' (by rw [List.length_reverse]; exact hn), List.reverse_reverse]
  have h2 : ((Value.ref a :: as).reverse ++ st).drop n = st := List.drop_left' (by rw [List.length_reverse]; exact hn)
  unfold nx_inv
  rw [h1, h2]
  by_cases hc : rcv M ci (Value.ref a :: as) = true ∧ st.length ≤ 4
  · rw [if_pos ⟨fun _ => hc.1, by simp at hn ⊢; omega, hc.2⟩, if_pos hc]
    cases hcf : cf y (Value.ref a :: as) M with
    | none => rfl
    | some x => obtain ⟨v, M'⟩ := x; cases v <;> rfl
  · rw [if_neg (fun q => hc ⟨q.1 rfl, q.2.2⟩), if_neg hc]
theorem den_isp {ix ci y n : Nat} {r : List Nat} (as : List Value) {a : Nat} (h : look (tab m) pc = some (.invokespecial ix, len, 1 :: ci :: y :: n :: r, cst)) (hn : (Value.ref a :: as).length = n) : den cf m pc L ((Value.ref a :: as).reverse ++ st) M = if rcv M ci (Value.ref a :: as) = true ∧ st.length ≤ 4 then rK (cf y (Value.ref a :: as) M) (fun v M' => den cf m (pc + len) L (pR v st) M') else none := by
  rw [den_nx h]
  show (match nx_inv cf true ci y n (pc + len) L ((Value.ref a :: as).reverse ++ st) M with | none => none | some (.inl (a, b, c, d)) => den cf m a b c d | some (.inr r) => some r) = _
  have h1 : (((Value.ref a :: as).reverse ++ st).take n).reverse = Value.ref a :: as := by rw [List.take_left' (by rw [List.length_reverse]; exact hn), List.reverse_reverse]
  have h2 : ((Value.ref a :: as).reverse ++ st).drop n = st := List.drop_left' (by rw [List.length_reverse]; exact hn)
  unfold nx_inv
  rw [h1, h2]
  by_cases hc : rcv M ci (Value.ref a :: as) = true ∧ st.length ≤ 4
  · rw [if_pos ⟨fun _ => hc.1, by simp at hn ⊢; omega, hc.2⟩, if_pos hc]
    cases hcf : cf y (Value.ref a :: as) M with
    | none => rfl
    | some x => obtain ⟨v, M'⟩ := x; cases v <;> rfl
  · rw [if_neg (fun q => hc ⟨q.1 rfl, q.2.2⟩), if_neg hc]
theorem den_ist {ix y n : Nat} {r : List Nat} (as : List Value) (h : look (tab m) pc = some (.invokestatic ix, len, 1 :: y :: n :: r, cst)) (hn : as.length = n) : den cf m pc L (as.reverse ++ st) M = if st.length ≤ 4 then rK (cf y as M) (fun v M' => den cf m (pc + len) L (pR v st) M') else none := by
  rw [den_nx h]
  show (match nx_inv cf false 0 y n (pc + len) L (as.reverse ++ st) M with | none => none | some (.inl (a, b, c, d)) => den cf m a b c d | some (.inr r) => some r) = _
  have h1 : ((as.reverse ++ st).take n).reverse = as := by rw [List.take_left' (by rw [List.length_reverse]; exact hn), List.reverse_reverse]
  have h2 : (as.reverse ++ st).drop n = st := List.drop_left' (by rw [List.length_reverse]; exact hn)
  unfold nx_inv
  rw [h1, h2]
  by_cases hc : st.length ≤ 4
  · rw [if_pos ⟨fun q => (by cases q), by simp; omega, hc⟩, if_pos hc]
    cases hcf : cf y as M with
    | none => rfl
    | some x => obtain ⟨v, M'⟩ := x; cases v <;> rfl
  · rw [if_neg (fun q => hc q.2.2), if_neg hc]
theorem den_e0 {v : Int32} {r : List Nat} (h : look (tab m) pc = some (.ireturn, len, 0 :: r, cst)) : den cf m pc L [.int v] M = some (some (.int v), M) := by rw [den_nx h]; rfl
theorem den_e1 {v : Int32} {r : List Nat} (h : look (tab m) pc = some (.ireturn, len, 1 :: r, cst)) : den cf m pc L [.int v] M = if v = zI 0 ∨ v = zI 1 then some (some (.int v), M) else none := by
  rw [den_nx h, zI_0, zI_1]
  show (match (if v = 0 ∨ v = 1 then some (Sum.inr (some (.int v), M)) else none : NX) with | none => none | some (.inl (a, b, c, d)) => den cf m a b c d | some (.inr r) => some r) = _
  by_cases q : v = 0 ∨ v = 1
  · rw [if_pos q, if_pos q]
  · rw [if_neg q, if_neg q]
theorem den_e2 {v : Int64} (h : look (tab m) pc = some (.lreturn, len, ax, cst)) : den cf m pc L [.long v] M = some (some (.long v), M) := by rw [den_nx h]; rfl
theorem den_e3 {v : Value} (h : look (tab m) pc = some (.areturn, len, ax, cst)) : den cf m pc L [v] M = if isRf v = true then some (some v, M) else none := by
  rw [den_nx h]
  show (match (if isRf v = true then some (Sum.inr (some v, M)) else none : NX) with | none => none | some (.inl (a, b, c, d)) => den cf m a b c d | some (.inr r) => some r) = _
  by_cases q : isRf v = true
  · rw [if_pos q, if_pos q]
  · rw [if_neg q, if_neg q]
theorem den_e4 (h : look (tab m) pc = some (.return_, len, ax, cst)) : den cf m pc L [] M = some (none, M) := by rw [den_nx h]; rfl
theorem den_ts {lo hi : Int} {dd : Int} {offs : Array Int} {d0 : Nat} {ts : List Nat} {x : Int32} (h : look (tab m) pc = some (.tableswitch dd lo hi offs, len, d0 :: ts, cst)) : den cf m pc L (.int x :: st) M = if x.toInt < lo ∨ hi < x.toInt then den cf m d0 L st M else oK ts[(x.toInt - lo).toNat]? (fun t => den cf m t L st M) := by
  rw [den_nx h]
  show (match nx_tsw lo hi (d0 :: ts) L (.int x :: st) M with | none => none | some (.inl (a, b, c, d)) => den cf m a b c d | some (.inr r) => some r) = _
  unfold nx_tsw
  dsimp only
  by_cases q : x.toInt < lo ∨ hi < x.toInt
  · rw [if_pos q, if_pos q]
  · rw [if_neg q, if_neg q, List.getElem?_cons_succ]
    cases ts[(x.toInt - lo).toNat]? <;> rfl
end EQ
theorem st2_eq (L : List Value) (i : Nat) (v : Value) : st2 L i v = st1r (L.set (i + 1) uu) i v := by
  rw [← st1r_eq]
  unfold st2 st1
  congr 1
  cases i with
  | zero => rfl
  | succ j =>
    unfold kl
    dsimp only
    rw [List.getElem?_set_ne (by omega)]
    cases L[j]? with
    | none => rfl
    | some w =>
      dsimp only
      by_cases h : is2 w = true
      · rw [if_pos h, if_pos h, List.set_comm _ _ (by omega)]
      · rw [if_neg h, if_neg h]
section EQ2
variable {cf : Nat → List Value → AM → Option AR} {m pc len : Nat} {i : Instr} {ax : List Nat} {cst : Value} {L st : List Value} {M : AM}
theorem den_s2 {a k : Nat} {v : Value} {c : List Value} {d : AM} (h : look (tab m) pc = some (i, len, ax, cst)) (hx : nx cf i len ax cst pc L st M = some (.inl (a, st2 L k v, c, d))) : den cf m pc L st M = den cf m a (st1r (L.set (k + 1) uu) k v) c d := by
  rw [den_nx h, hx, st2_eq]
theorem den_as {k a : Nat} {v : Value} {c : List Value} {d : AM} (h : look (tab m) pc = some (i, len, ax, cst)) (hx : nx cf i len ax cst pc L st M = if isRf v = true ∧ k < L.length then some (.inl (a, st1 L k v, c, d)) else none) (hk : k < L.length) : den cf m pc L st M = if isRf v = true then den cf m a (st1r L k v) c d else none := by
  rw [den_nx h, hx]
  by_cases q : isRf v = true
  · rw [if_pos ⟨q, hk⟩, if_pos q, st1r_eq]
  · rw [if_neg (fun z => q z.1), if_neg q]
theorem den_dv {f : Int32 → Int32 → Int32} {x y : Int32} {a : Nat} (h : look (tab m) pc = some (i, len, ax, cst)) (hx : nx cf i len ax cst pc L (.int y :: .int x :: st) M = nx_2d f a L (.int y :: .int x :: st) M) : den cf m pc L (.int y :: .int x :: st) M = if y = zI 0 then none else den cf m a L (.int (f x y) :: st) M := by
  rw [den_nx h, hx, zI_0]
  unfold nx_2d
  dsimp only
  by_cases q : y = 0
  · rw [if_pos q, if_pos q]
  · rw [if_neg q, if_neg q]
theorem zJ_0 : zJ 0 = 0 := by decide +kernel
theorem den_dl {f : Int64 → Int64 → Int64} {x y : Int64} {a : Nat} (h : look (tab m) pc = some (i, len, ax, cst)) (hx : nx cf i len ax cst pc L (.long y :: .long x :: st) M = nx_l2d f a L (.long y :: .long x :: st) M) : den cf m pc L (.long y :: .long x :: st) M = if y = zJ 0 then none else den cf m a L (.long (f x y) :: st) M := by
  rw [den_nx h, hx, zJ_0]
  unfold nx_l2d
  dsimp only
  by_cases q : y = 0
  · rw [if_pos q, if_pos q]
  · rw [if_neg q, if_neg q]
theorem den_ls {dd : Int} {ps : Array (Int × Int)} {x : Int32} (h : look (tab m) pc = some (.lookupswitch dd ps, len, ax, cst)) : den cf m pc L (.int x :: st) M = oK (nx_lsw ps.toList ax x.toInt) (fun t => den cf m t L st M) := by
  rw [den_nx h]
  show (match (match nx_lsw ps.toList ax x.toInt with | some t => some (Sum.inl (t, L, st, M)) | none => none : NX) with | none => none | some (.inl (a, b, c, d)) => den cf m a b c d | some (.inr r) => some r) = _
  cases nx_lsw ps.toList ax x.toInt <;> rfl
theorem den_pf0 {q ix ci k : Nat} {r : List Nat} {x : Int32} (h : look (tab m) pc = some (.putfield ix, len, ci :: k :: 0 :: r, cst)) : den cf m pc L (.int x :: .ref q :: st) M = oK (pfA (M.2.2 q) ci k (.int x)) (fun c => den cf m (pc + len) L st (mU M q c)) := by
  rw [den_pf h]; exact if_pos rfl
end EQ2
