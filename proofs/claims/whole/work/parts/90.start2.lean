theorem vk_to {N : Nat} {len : List Nat} {byt : List (List Int32)} {adK adV adK' adV' : Nat → Nat} {A : Nat → Prop} {U : State} {H : Heap} (h : vk_S N len byt adK adV A U H) (hK : ∀ i, i < N → adK' i = adK i) (hV : ∀ i, i < N → adV' i = adV i) : vk_S N len byt adK' adV' A U H :=
  ⟨fun i hi => by rw [hK i hi, hV i hi]; exact h.1 i hi, fun i j hi hj e => h.2 i j hi hj (by rw [← hK i hi, ← hK j hj]; exact e)⟩
theorem kn_start {s : State} {b : Nat} (hts : ∀ w ∈ wsL_law, w.before #[Value.ref b] s = true) : ∃ D : va_G, ∀ (k : Nat) (q : vw_C), clA[k]? = some q → u_Kn s q.1 q.2.1 q.2.2 (D.1 k) (D.2 k) := by
  have hk : ∀ (k : Nat) (q : vw_C), clA[k]? = some q → ∃ (cC : ClassId) (iS : Nat → Nat), u_Kn s q.1 q.2.1 q.2.2 cC iS := fun k q hq => by
    match k, hq with
    | 0, hq => cases hq; exact u_known hts inlX0 (hts (.instantiable RX0 8) (by decide +kernel))
    | 1, hq => cases hq; exact u_known hts inlX1 (hts (.instantiable RX1 10) (by decide +kernel))
    | 2, hq => cases hq; exact u_known hts inlX2 (hts (.instantiable RX2 7) (by decide +kernel))
    | 3, hq => cases hq; exact u_known hts inlX3 (hts (.instantiable RX3 5) (by decide +kernel))
    | 4, hq => cases hq; exact u_known hts inlX4 (hts (.instantiable RX4 7) (by decide +kernel))
    | 5, hq => cases hq; exact u_known hts inlX5 (hts (.instantiable RX5 8) (by decide +kernel))
    | 6, hq => cases hq; exact u_known hts inlX6 (hts (.instantiable RX6 36) (by decide +kernel))
    | k + 7, hq => cases hq
  have h0 : ∀ k : Nat, ∃ x : ClassId × (Nat → Nat), ∀ q : vw_C, clA[k]? = some q → u_Kn s q.1 q.2.1 q.2.2 x.1 x.2 := fun k => by
    cases hc : clA[k]? with
    | none => exact ⟨((0 : Nat), fun _ => 0), fun q hq => by cases hq⟩
    | some q =>
      obtain ⟨cC, iS, h⟩ := hk k q hc
      exact ⟨(cC, iS), fun q' hq' => by cases hq'; exact h⟩
  obtain ⟨f, hf⟩ := Classical.axiomOfChoice h0
  exact ⟨(fun k => (f k).1, fun k => (f k).2), fun k q hq => hf k q hq⟩
theorem kw_start {s : State} {b : Nat} (htl : ∀ w ∈ lw_tbl, w.before #[Value.ref b] s = true) (hts : ∀ w ∈ wsL_law, w.before #[Value.ref b] s = true) : ∃ (D : va_G) (dA : Nat → ClassId), KW D dA s := by
  obtain ⟨D, hD⟩ := kn_start hts
  have w0 := htl (.arrayClass .int) (by decide +kernel)
  have w1 := htl (.arrayClass .long) (by decide +kernel)
  have w2 := htl (.arrayOver (.object RX1)) (by decide +kernel)
  have w3 := htl (.arrayOver (.object RX3)) (by decide +kernel)
  have w4 := htl (.arrayOver (.array .long)) (by decide +kernel)
  obtain ⟨a0, k0, p0, h01, h02, h03⟩ := Cond.arrayClass_spec w0
  obtain ⟨a1, k1, p1, h11, h12, h13⟩ := Cond.arrayClass_spec w1
  obtain ⟨p2, a2, k2, h21, -, h23, h24, h25⟩ := Cond.arrayOver_spec w2
  obtain ⟨p3, a3, k3, h31, -, h33, h34, h35⟩ := Cond.arrayOver_spec w3
  obtain ⟨p4, a4, k4, h41, -, h43, h44, h45⟩ := arrayOverA_spec w4
  refine ⟨D, fun t => if t = 0 then a0 else if t = 1 then a1 else if t = 2 then a2 else if t = 3 then a3 else a4, ⟨hD, fun k q hq => ?_⟩, va_AO.of w2, va_AO.of w3, w4⟩
  match k, hq with
  | 0, hq => cases hq; exact ⟨fun n z => ⟨fun k h => (by cases h), k0, h02, p0, h03⟩, h01⟩
  | 1, hq => cases hq; exact ⟨fun n z => ⟨fun k h => (by cases h), k1, h12, p1, h13⟩, h11⟩
  | 2, hq => cases hq; exact ⟨fun n z => ⟨fun k h => (by cases h), k2, h23, p2, h24⟩, k2, p2, h23, h24, h21, h25⟩
  | 3, hq => cases hq; exact ⟨fun n z => ⟨fun k h => (by cases h), k3, h33, p3, h34⟩, k3, p3, h33, h34, h31, h35⟩
  | 4, hq => cases hq; exact ⟨fun n z => ⟨fun k h => (by cases h), k4, h43, p4, h44⟩, h45⟩
  | k + 5, hq => cases hq
/-- YOUR PART: from the entry, for every script of at most 3072 ints, the law comes to its end with true ('hflags': the launch's flags, for a law that throws: no stack traces) -/
theorem whole_start {p : Program} {e : Env} {s : State} {m : MethodId} {below : List Frame} {meth : Method} {c : Code} (l : Launch) (hflags : l.flags = flags0) {b L : Nat} {xs : Nat → Int32} (hL : L ≤ 3072) (C0 : lw_At p s m meth c b L xs) : W p l e room_1 s m #[Value.ref b] below meth c s.heap [] 0 0 (lw_Z below #[Value.ref b] s) (entryFrame m ([Value.ref b] : List Value).toArray 4) := by
  obtain ⟨hx, hb, hr, hml, hown, hts, hX, hbl, hlocks, hgv⟩ := C0
  have htl : ∀ w ∈ wsL_law, w.before #[Value.ref b] s = true := fun w h => hts w (wsL_law_in w h)
  obtain ⟨D, dA, hKW⟩ := kw_start hts htl
  obtain ⟨adK, adV, hS1, hS2⟩ := str_start hts hgv
  obtain ⟨xa, hxa⟩ : ∃ xa : Nat → Nat, xa = fun k => if k = 0 then b else if k < 20 then adK (k - 1) else adV (k - 20) := ⟨_, rfl⟩
  have x0 : xa 0 = b := by rw [hxa]; rfl
  have xK : ∀ i, i < 7 → xa (1 + i) = adK i := fun i hi => by
    rw [hxa]
    show (if 1 + i = 0 then b else if 1 + i < 20 then adK (1 + i - 1) else adV (1 + i - 20)) = adK i
    rw [if_neg (by omega), if_pos (by omega), show 1 + i - 1 = i by omega]
  have xV : ∀ i, i < 7 → xa (20 + i) = adV i := fun i hi => by
    rw [hxa]
    show (if 20 + i = 0 then b else if 20 + i < 20 then adK (20 + i - 1) else adV (20 + i - 20)) = adV i
    rw [if_neg (by omega), if_neg (by omega), show 20 + i - 20 = i by omega]
  have hnA : ∀ a : Nat, a < s.heap.size → ¬ s.heap.size ≤ a := fun a h1 h2 => Nat.lt_irrefl _ (Nat.lt_of_lt_of_le h1 h2)
  have hSF : SF s.heap.size xa L xs s s.heap := ⟨by rw [x0]; exact hX, by rw [x0]; exact hbl, fun j o i t hj => by
    obtain ⟨h1, h2⟩ := hS2 j o i t hj
    rw [xK t h1]; exact h2, vk_to hS1 xK xV, va_Zof (hts (.laysStatic "java/lang/String" "COMPACT_STRINGS" "Z") (by decide +kernel)) (hts (.initialized "java/lang/String") (by decide +kernel)) (va_eqt (flat_of_before _ hgv _ (by decide +kernel))) hnA, va_Zqof (hts (.laysStatic "jdk/internal/util/Preconditions" "SIOOBE_FORMATTER" "Ljava/util/function/BiFunction;") (by decide +kernel)) (hts (.initialized "jdk/internal/util/Preconditions") (by decide +kernel)) (flat_of_before _ hgv _ (by decide +kernel)) hnA⟩
  have hC : Cx p s m #[Value.ref b] meth c 0 D dA s.heap.size xa L xs := ⟨hx, by rw [hb]; rfl, by rw [hml]; rfl, hown, htl, hKW, hSF, fun h => absurd h (by decide +kernel), Nat.le_refl _⟩
  have hz : ∀ x : Int32, zI x.toInt = x := fun x => Int32.ofInt_toInt x
  have hsc : xmD L xs 1000000 = scr L (fun j => (xs j).toInt) := by
    have e : xs = fun j => zI ((xs j).toInt) := funext fun j => (hz (xs j)).symm
    show (if 1000000 = 1000000 then (Sum.inr (7, L, Sum.inl xs) : AC) else _) = Sum.inr (7, L, Sum.inl fun j => zI ((xs j).toInt))
    rw [if_pos rfl, ← e]
  obtain ⟨M', g, g1, g2⟩ := law_run (C := xmD L xs) hsc hL (fun j => by unfold i32; have := Int32.le_toInt (xs j); have := Int32.toInt_lt (xs j); omega)
  obtain ⟨n, hn⟩ := den_run g
  have hen : enL 4 [.ref 1000000] = [.ref 1000000, uu, uu, uu] := by simp [enL, is2_r, List.replicate]
  have hl := hasL.entry (b0 := s.heap.size) (xa := xa) (as := [.ref 1000000]) (n := 4) (by rw [hen]; rfl)
  rw [hen] at hl
  have hcv : ([.ref 1000000] : List Value).map (cv s.heap.size xa) = [.ref b] := by
    show [Value.ref (if 1000000 < 1000000 then s.heap.size + 1000000 else xa (1000000 - 1000000))] = _
    rw [if_neg (by omega), Nat.sub_self, x0]
  rw [hcv] at hl
  have K := run_law (p := p) (l := l) (e := e) (below := below) (ok_callD l D dA s.heap.size xa L xs 30) hC hb hr hlocks (by decide) (by decide) rfl g1 g2 n 0 _ _ _ hn
  rw [lg_entry_eq]
  exact K s.heap [] _ 0 0 hl rfl ⟨rfl, fun k hk => absurd hk (Nat.not_lt_zero k), fun k _ => rfl, by show 0 < 700000; omega⟩ va_S.rf rfl rfl
