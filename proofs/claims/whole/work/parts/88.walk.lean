/-! THE CLAIM OUT OF ONE WALK OF THE LAW'S BODY. Your part is whole_start (and what it stands on); all else here is the same for every law, but numbers. -/
def R_law : String := "DearPenFriendLaw"
def lw_P (b : Addr) (xs : List Int32) (args : Array Value) (s : State) : Prop := args = #[.ref b] ∧ s.IntsAt b xs ∧ xs.length ≤ 3072 ∧ (Jvm.Cond.and given_1 narrow_1).before args s = true
def lw_Q (_ : Array Value) (s : State) (o : Outcome) (t : State) : Prop := o = .returned (some (.int 1)) ∧ Framed s o t [] 600000 7302250
def lw_Z (below : List Frame) (a : Array Value) (s : State) : State → Prop := fun t => ∃ o, t.status = .running ∧ Ended t below o ∧ lw_Q a s o t
/-- the law's own end, with 1 on the stack, nothing written that was there before, its room as the claim has it -/
theorem lw_ret {p : Program} {l : Launch} {e : Env} {s : State} {m : MethodId} {below : List Frame} {meth : Method} {c : Code} {b : Nat} (hx : p.tables.exec = Jvm.exec) (hb : c.code = code) (hr : meth.sig.returnType = ret) (hlocks : meth.locks = false) {pc : Nat} {H : Heap} {ls : Array Slot} (hdg : decode code pc = .ok (.ireturn, 1)) : W p l e room_1 s m #[Value.ref b] below meth c H [] 600000 7302250 (lw_Z below #[Value.ref b] s) (F0 m pc ls [.int 1]) := by
  intro T hT X
  obtain ⟨fs, hret, hrun, hended, hW, hframe⟩ := X.leave (v := some (.int 1)) (hlocks := hlocks) (fun h => by rw [hr] at h; cases h)
  have hmeth' : T.vm.method? m = some meth := X.method'
  refine ⟨T.setFrames fs, ?_, .returned (some (.int 1)), hrun, hended, rfl, ⟨_, rfl⟩, hW, hframe⟩
  jvm_step X.here [X.here.top, hx, hb, hdg, hmeth', hr, ret, narrow_b1]
  (try refine ⟨rfl, ?_⟩); (try refine ⟨rfl, ?_⟩)
  first | (intro acts; rw [hret _ acts rfl rfl rfl]) | rw [hret _ _ rfl rfl rfl]
  exact Steps.refl _
/-- what holds at the law's entry: the machine, the code, the tables' words (any of lw_tbl by 'hts w (by decide +kernel)'), the script of L ints xs at the cell b, what the Statement gives of the start (any of its parts by flat_of_before) -/
def lw_At (p : Program) (s : State) (m : MethodId) (meth : Method) (c : Code) (b L : Nat) (xs : Nat → Int32) : Prop :=
  p.tables.exec = Jvm.exec ∧ c.code = code ∧ meth.sig.returnType = ret ∧ c.maxLocals = 4 ∧ s.vm.findClass R_law = some m.cls ∧ (∀ w ∈ lw_tbl, w.before #[Value.ref b] s = true) ∧ va_X b L xs s s.heap ∧ b < s.heap.size ∧ meth.locks = false ∧ (Jvm.Cond.and given_1 narrow_1).before #[Value.ref b] s = true
section RUNL
variable {p : Program} {l : Launch} {e : Env} {s : State} {m : MethodId} {below : List Frame} {meth : Method} {c : Code} {D : va_G} {dA : Nat → ClassId} {b0 b : Nat} {xa : Nat → Nat} {sL : Nat} {sX : Nat → Int32}
/-- the law's run on the abstract machine is a walk of the law's body to its end -/
theorem run_law {cf : Nat → List Value → AM → Option AR} {d : Nat} (hcf : OKc l D dA b0 xa sL sX d cf) (C : Cx p s m #[Value.ref b] meth c 0 D dA b0 xa sL sX) (hb : c.code = code) (hr : meth.sig.returnType = ret) (hlocks : meth.locks = false) (hf1 : d + 3 ≤ room_1.frames) (hf2 : 64 * (d + 1) + 100 ≤ room_1.locals) (hbz : b0 = s.heap.size) {M' : AM} (hmc : M'.1 ≤ 158) (hms : M'.2.1 ≤ 300000) :
    ∀ (n pc : Nat) (L st : List Value) (M : AM), runN cf 0 n pc L st M = some (some (.int (zI 1)), M') → KK p l e room_1 s m #[Value.ref b] below meth c (lw_Z below #[Value.ref b] s) 0 D dA b0 xa sL sX 0 0 pc L st M := by
  have hgr : ∀ (y : Nat) (as : List Value) (M : AM) (r : Option Value) (M' : AM), cf y as M = some (r, M') → M.1 ≤ M'.1 ∧ M.2.1 ≤ M'.2.1 := fun y as M r M' h => ⟨(hcf y as M r M' h).1, (hcf y as M r M' h).2.1⟩
  have hc0 : room_1.cells = 600000 := rfl
  have hs0 : room_1.slots = 7302250 := rfl
  intro n
  induction n with
  | zero => intro pc L st M h; cases h
  | succ n ih =>
    intro pc L st M h H locs ls k0 t0 hl hLn hR hS hk ht
    unfold runN at h
    cases hn : nxt cf 0 pc L st M with
    | none => rw [hn] at h; cases h
    | some x =>
      rw [hn] at h
      cases x with
      | inl q =>
        obtain ⟨a, b, c', d'⟩ := q
        have hg := run_grow hgr n a b c' d' _ M' h
        exact step_sound C (by omega) hLn hl hR hS hk ht (by omega) (by omega) hcf hf1 hf2 hn (ih a b c' d' h)
      | inr q =>
        have hq : q = (some (.int (zI 1)), M') := Option.some.inj h
        subst hq
        have hM : M' = M := nxt_end hn
        obtain ⟨i, len, ax, cst, hd, hlk, hn⟩ := step_look (by omega) hn
        obtain ⟨hx, -⟩ := C
        have hloc : ∀ q ∈ locs, s.heap.size ≤ q.base := fun q hq => hbz ▸ hS.2.2 q hq
        rw [hM] at hmc hms
        rcases nx_ends hn with ⟨rfl, t, r', rfl, ht2, he⟩ | ⟨rfl, he⟩ | ⟨rfl, he⟩ | ⟨rfl, he⟩
        · simp only [lkE, Bool.and_eq_true, decide_eq_true_eq] at hlk
          obtain ⟨rfl, -⟩ := hlk
          have hst : st = [.int 1] := by
            rcases (nx_end_inv he).2 with ⟨-, v, h1, h2⟩ | ⟨-, v, h1, h2, -⟩ | ⟨e, -⟩ | ⟨e, -⟩ | ⟨e, -⟩
            · have : Value.int (zI 1) = .int v := Option.some.inj h2
              cases this; exact h1
            · have : Value.int (zI 1) = .int v := Option.some.inj h2
              cases this; exact h1
            · omega
            · omega
            · omega
          subst hst
          exact va_forget hloc (W.widen (k := 600000) (n := 7302250) (by omega) (by omega) (lw_ret hx hb hr hlocks hd))
        · rcases (nx_end_inv he).2 with ⟨e, -⟩ | ⟨e, -⟩ | ⟨-, v, -, h2⟩ | ⟨e, -⟩ | ⟨e, -⟩
          · omega
          · omega
          · cases h2
          · omega
          · omega
        · simp only [lkE, Bool.and_eq_true, decide_eq_true_eq] at hlk
          obtain ⟨-, hlk⟩ := hlk
          have hm : mdR 0 = some .boolean := rfl
          rw [hm] at hlk
          cases hlk
        · rcases (nx_end_inv he).2 with ⟨e, -⟩ | ⟨e, -⟩ | ⟨e, -⟩ | ⟨e, -⟩ | ⟨-, -, h2⟩
          · omega
          · omega
          · omega
          · omega
          · cases h2
end RUNL
