/-! each instruction of the tables against the bytes, and what it links against the words -/
def eqW (p : Nat) (w : Cond) : Bool := decide (wsL_law[p]? = some w)
def cNm (ci : Nat) : String := match clA[ci]? with
  | some (C, _, _) => C
  | none => ""
def cN (ci : Nat) : Nat := match clA[ci]? with
  | some (_, _, n) => n
  | none => 0
def cT (ci k : Nat) : String × String × String × Bool := match clA[ci]? with
  | some (_, T, _) => T k
  | none => ("", "", "", true)
def tcO (d : String) : Nat := if d = "I" then 0 else if d = "Z" then 1 else 2
def mdN (y : Nat) : MethodName := match mdf y with
  | some (n, _) => n
  | none => ⟨"", "", ""⟩
def mdB (y : Nat) : ByteArray := match mdf y with
  | some (_, b, _) => b
  | none => ⟨#[]⟩
def mdL (y : Nat) : Nat := match mdf y with
  | some (_, _, n, _) => n
  | none => 0
def mdR (y : Nat) : Option FieldType := match mdf y with
  | some (_, _, _, r, _) => r
  | none => none
def mdP (y : Nat) : Nat := match mdf y with
  | some (_, _, _, _, p, _) => p
  | none => 9999
def mdO (y : Nat) : String := match mdf y with
  | some (_, _, _, _, _, o) => o
  | none => ""
/-- the words of the strings' two methods -/
def spN (y : Nat) : MethodName := if y = 300 then yJ0_length_8abf5 else if y = 301 then yJ0_charAt_5068e else mdN y
def strW : List (String × Nat × String) := [(RX4, 45, "pupil"), (RX4, 54, "likes"), (RX4, 59, "pair"), (RX4, 64, "part"), (RX4, 69, "loss"), (RX4, 79, "toil"), (RX4, 83, "friday"), (RX6, 200, "pupil"), (RX6, 206, "likes"), (RX6, 208, "pair"), (RX6, 214, "part"), (RX6, 216, "loss"), (RX6, 221, "toil"), (RX6, 223, "friday")]
def lkE (own : String) (rt : Option FieldType) (ini : Bool) (pc : Nat) (e : En) : Bool := match e with
  | (.iconst n, l, _, c) => decide (l = 1) && decide (c = .int (Int32.ofInt n))
  | (.bipush n, l, _, c) => decide (l = 2) && decide (c = .int (Int8.ofInt n).toInt32)
  | (.sipush n, l, _, c) => decide (l = 3) && decide (c = .int (Int16.ofInt n).toInt32)
  | (.lconst n, l, _, c) => decide (l = 1) && decide (c = .long (Int64.ofNat (n : Nat)))
  | (.ldc k, l, p :: _, .int v) => decide (l = 2) && eqW p (.constant own k v)
  | (.ldc k, l, j :: _, .ref a) => decide (l = 2) && decide (a = 1000001 + j) && (match strW[j]? with
    | some (o, i, _) => decide (o = own) && decide (i = k)
    | none => false)
  | (.ldc_w k, l, p :: _, .int v) => decide (l = 3) && eqW p (.constant own k v)
  | (.ldc2_w k, l, p :: _, .long v) => decide (l = 3) && eqW p (.constantLong own k v)
  | (.aconst_null, l, _, _) => decide (l = 1)
  | (.iload_n _, l, _, _) => decide (l = 1)
  | (.iload _, l, _, _) => decide (l = 2)
  | (.lload_n _, l, _, _) => decide (l = 1)
  | (.lload _, l, _, _) => decide (l = 2)
  | (.aload_n _, l, _, _) => decide (l = 1)
  | (.aload _, l, _, _) => decide (l = 2)
  | (.istore_n _, l, _, _) => decide (l = 1)
  | (.istore _, l, _, _) => decide (l = 2)
  | (.lstore_n _, l, _, _) => decide (l = 1)
  | (.lstore _, l, _, _) => decide (l = 2)
  | (.astore_n _, l, _, _) => decide (l = 1)
  | (.astore _, l, _, _) => decide (l = 2)
  | (.iinc _ n, l, _, c) => decide (l = 3) && decide (c = .int (Int32.ofInt n))
  | (.ifCond _ off, l, ax, _) => decide (l = 3) && decide ((pc : Int) + off = ((ax.headD 0 : Nat) : Int))
  | (.if_icmp _ off, l, ax, _) => decide (l = 3) && decide ((pc : Int) + off = ((ax.headD 0 : Nat) : Int))
  | (.ifnull off, l, ax, _) => decide (l = 3) && decide ((pc : Int) + off = ((ax.headD 0 : Nat) : Int))
  | (.ifnonnull off, l, ax, _) => decide (l = 3) && decide ((pc : Int) + off = ((ax.headD 0 : Nat) : Int))
  | (.goto off, l, ax, _) => decide (l = 3) && decide ((pc : Int) + off = ((ax.headD 0 : Nat) : Int))
  | (.tableswitch d _ _ offs, _, ax, _) => decide (ax.map (fun t : Nat => (t : Int)) = (d :: offs.toList).map (fun o => (pc : Int) + o))
  | (.lookupswitch d ps, _, ax, _) => decide (ax.map (fun t : Nat => (t : Int)) = ps.toList.map (fun q => (pc : Int) + q.2) ++ [(pc : Int) + d]) && (ps.toList.zip (ps.toList.drop 1)).all (fun (a, next) => a.1 < next.1)
  | (.getfield k, l, ci :: f :: p :: _, _) => decide (l = 3) && decide (f < cN ci) && decide (ci < 7) && decide ((cT ci f).1 = cNm ci) && eqW p (.fieldLink own k (cT ci f).1 (cT ci f).2.1 (cT ci f).2.2.1)
  | (.putfield k, l, ci :: f :: tc :: p :: fin :: _, _) => decide (l = 3) && decide (f < cN ci) && decide (ci < 7) && decide ((cT ci f).1 = cNm ci) && eqW p (.fieldLink own k (cT ci f).1 (cT ci f).2.1 (cT ci f).2.2.1) && decide (tc = tcO (cT ci f).2.2.1) && (if (cT ci f).2.2.2 = true then ini && decide ((cT ci f).1 = own) && decide (fin = 1) else decide (fin = 0))
  | (.new k, l, ci :: p1 :: p2 :: p3 :: _, _) => decide (l = 3) && decide (ci < 7) && eqW p1 (.classLink own k (cNm ci)) && eqW p2 (.instantiable (cNm ci) (cN ci)) && eqW p3 (.initialized (cNm ci))
  | (.newarray t, l, p :: _, _) => decide (l = 2) && (match t with
    | .int => eqW p (.arrayClass .int)
    | .long => eqW p (.arrayClass .long)
    | _ => false)
  | (.anewarray k, l, t :: p :: _, _) => decide (l = 3) && (decide (t = 2) || decide (t = 3)) && eqW p (.classLink own k (cNm (elc t)))
  | (.multianewarray k dm, l, p :: p2 :: _, _) => decide (l = 4) && decide (dm = 2) && eqW p (.classLink own k ("[" ++ (FieldType.array .long).toString)) && eqW p2 (.arrayClass .long)
  | (.invokespecial k, l, 0 :: p1 :: p2 :: p3 :: _, _) => decide (l = 3) && eqW p1 (.methodLink own k objectInit) && eqW p2 (.instanceMethod objectInit) && eqW p3 (.code objectInit ⟨#[0xb1]⟩ 1 none)
  | (.invokespecial k, l, 1 :: ci :: y :: n :: p1 :: p2 :: p3 :: _, _) => decide (l = 3) && decide (0 < y) && decide (y < 245) && eqW p1 (.methodLink own k (mdN y)) && eqW p2 (.instanceMethod (mdN y)) && eqW p3 (.initialized (mdN y).cls) && decide ((mdN y).cls = cNm ci) && decide (ci < 7) && decide ((mdN y).name = "<init>") && decide (mdR y = none) && decide ((parseMethodDescriptor (mdN y).desc).map (fun d => d.parameters.length + 1) = some n)
  | (.invokevirtual k, l, ci :: y :: n :: p1 :: p2 :: p3 :: p4 :: _, _) => decide (l = 3) && decide (0 < y) && decide (y < 245 ∨ y = 300 ∨ y = 301) && eqW p1 (.methodLink own k (spN y)) && eqW p2 (.instanceMethod (spN y)) && eqW p3 (.selects (spN y).cls (spN y) (spN y)) && eqW p4 (.initialized (spN y).cls) && decide ((spN y).cls = if ci = 90 then "java/lang/String" else cNm ci) && decide (ci < 7 ∨ ci = 90) && decide (ci = 90 ↔ 300 ≤ y) && decide ((parseMethodDescriptor (spN y).desc).map (fun d => d.parameters.length + 1) = some n)
  | (.invokestatic k, l, 0 :: p1 :: p2 :: p3 :: p4 :: _, _) => decide (l = 3) && eqW p1 (.methodLink own k arraycopyName) && eqW p2 (.native arraycopyName) && eqW p3 (.static arraycopyName) && eqW p4 (.initialized "java/lang/System")
  | (.invokestatic k, l, 1 :: y :: n :: p1 :: p2 :: p3 :: _, _) => decide (l = 3) && decide (0 < y) && decide (y < 245) && eqW p1 (.methodLink own k (mdN y)) && eqW p2 (.static (mdN y)) && eqW p3 (.initialized (mdN y).cls) && decide ((parseMethodDescriptor (mdN y).desc).map (fun d => d.parameters.length) = some n)
  | (.ireturn, l, t :: _, _) => decide (l = 1) && (if t = 0 then decide (rt = some .int) else decide (rt = some .boolean))
  | (.lreturn, l, _, _) => decide (l = 1) && decide (rt = some .long)
  | (.areturn, l, _, _) => decide (l = 1) && (match rt with
    | some (.object _) => true
    | _ => false)
  | (.return_, l, _, _) => decide (l = 1) && decide (rt = none)
  | (_, l, _, _) => decide (l = 1)
def chE (y : Nat) (q : Nat × En) : Bool := decide (decode (mdB y) q.1 = .ok (q.2.1, q.2.2.1)) && lkE (mdO y) (mdR y) (decide ((mdN y).name = "<init>")) q.1 q.2
def chM (y : Nat) : Bool := eqW (mdP y) (.code (mdN y) (mdB y) (mdL y) (mdR y)) && plainName (mdN y).cls && decide (mdO y = (mdN y).cls)
theorem ck_0 : (tab 0).all (chE 0) = true := by decide +kernel
theorem ck_1 : (tab 1).all (chE 1) = true := by decide +kernel
theorem ck_2 : (tab 2).all (chE 2) = true := by decide +kernel
theorem ck_3 : (tab 3).all (chE 3) = true := by decide +kernel
theorem ck_4 : (tab 4).all (chE 4) = true := by decide +kernel
theorem ck_5 : (tab 5).all (chE 5) = true := by decide +kernel
theorem ck_6 : (tab 6).all (chE 6) = true := by decide +kernel
theorem ck_7 : (tab 7).all (chE 7) = true := by decide +kernel
theorem ck_8 : (tab 8).all (chE 8) = true := by decide +kernel
theorem ck_9 : (tab 9).all (chE 9) = true := by decide +kernel
theorem ck_10 : (tab 10).all (chE 10) = true := by decide +kernel
theorem ck_11 : (tab 11).all (chE 11) = true := by decide +kernel
theorem ck_12 : (tab 12).all (chE 12) = true := by decide +kernel
theorem ck_13 : (tab 13).all (chE 13) = true := by decide +kernel
theorem ck_14 : (tab 14).all (chE 14) = true := by decide +kernel
theorem ck_15 : (tab 15).all (chE 15) = true := by decide +kernel
theorem ck_16 : (tab 16).all (chE 16) = true := by decide +kernel
theorem ck_17 : (tab 17).all (chE 17) = true := by decide +kernel
theorem ck_18 : (tab 18).all (chE 18) = true := by decide +kernel
theorem ck_19 : (tab 19).all (chE 19) = true := by decide +kernel
theorem ck_20 : (tab 20).all (chE 20) = true := by decide +kernel
theorem ck_21 : (tab 21).all (chE 21) = true := by decide +kernel
theorem ck_22 : (tab 22).all (chE 22) = true := by decide +kernel
theorem ck_23 : (tab 23).all (chE 23) = true := by decide +kernel
theorem ck_24 : (tab 24).all (chE 24) = true := by decide +kernel
theorem ck_25 : (tab 25).all (chE 25) = true := by decide +kernel
theorem ck_26 : (tab 26).all (chE 26) = true := by decide +kernel
theorem ck_27 : (tab 27).all (chE 27) = true := by decide +kernel
theorem ck_28 : (tab 28).all (chE 28) = true := by decide +kernel
theorem ck_29 : (tab 29).all (chE 29) = true := by decide +kernel
theorem ck_30 : (tab 30).all (chE 30) = true := by decide +kernel
theorem ck_31 : (tab 31).all (chE 31) = true := by decide +kernel
theorem ck_32 : (tab 32).all (chE 32) = true := by decide +kernel
theorem ck_33 : (tab 33).all (chE 33) = true := by decide +kernel
theorem ck_34 : (tab 34).all (chE 34) = true := by decide +kernel
theorem ck_35 : (tab 35).all (chE 35) = true := by decide +kernel
theorem ck_36 : (tab 36).all (chE 36) = true := by decide +kernel
theorem ck_37 : (tab 37).all (chE 37) = true := by decide +kernel
theorem ck_38 : (tab 38).all (chE 38) = true := by decide +kernel
theorem ck_39 : (tab 39).all (chE 39) = true := by decide +kernel
theorem ck_40 : (tab 40).all (chE 40) = true := by decide +kernel
theorem ck_41 : (tab 41).all (chE 41) = true := by decide +kernel
theorem ck_42 : (tab 42).all (chE 42) = true := by decide +kernel
theorem ck_43 : (tab 43).all (chE 43) = true := by decide +kernel
theorem ck_44 : (tab 44).all (chE 44) = true := by decide +kernel
theorem ck_45 : (tab 45).all (chE 45) = true := by decide +kernel
theorem ck_46 : (tab 46).all (chE 46) = true := by decide +kernel
theorem ck_47 : (tab 47).all (chE 47) = true := by decide +kernel
theorem ck_48 : (tab 48).all (chE 48) = true := by decide +kernel
theorem ck_49 : (tab 49).all (chE 49) = true := by decide +kernel
theorem ck_50 : (tab 50).all (chE 50) = true := by decide +kernel
theorem ck_51 : (tab 51).all (chE 51) = true := by decide +kernel
theorem ck_52 : (tab 52).all (chE 52) = true := by decide +kernel
theorem ck_53 : (tab 53).all (chE 53) = true := by decide +kernel
theorem ck_54 : (tab 54).all (chE 54) = true := by decide +kernel
theorem ck_55 : (tab 55).all (chE 55) = true := by decide +kernel
theorem ck_56 : (tab 56).all (chE 56) = true := by decide +kernel
theorem ck_57 : (tab 57).all (chE 57) = true := by decide +kernel
theorem ck_58 : (tab 58).all (chE 58) = true := by decide +kernel
theorem ck_59 : (tab 59).all (chE 59) = true := by decide +kernel
theorem ck_60 : (tab 60).all (chE 60) = true := by decide +kernel
theorem ck_61 : (tab 61).all (chE 61) = true := by decide +kernel
theorem ck_62 : (tab 62).all (chE 62) = true := by decide +kernel
theorem ck_63 : (tab 63).all (chE 63) = true := by decide +kernel
theorem ck_64 : (tab 64).all (chE 64) = true := by decide +kernel
theorem ck_65 : (tab 65).all (chE 65) = true := by decide +kernel
theorem ck_66 : (tab 66).all (chE 66) = true := by decide +kernel
theorem ck_67 : (tab 67).all (chE 67) = true := by decide +kernel
theorem ck_68 : (tab 68).all (chE 68) = true := by decide +kernel
theorem ck_69 : (tab 69).all (chE 69) = true := by decide +kernel
theorem ck_70 : (tab 70).all (chE 70) = true := by decide +kernel
theorem ck_71 : (tab 71).all (chE 71) = true := by decide +kernel
theorem ck_72 : (tab 72).all (chE 72) = true := by decide +kernel
theorem ck_73 : (tab 73).all (chE 73) = true := by decide +kernel
theorem ck_74 : (tab 74).all (chE 74) = true := by decide +kernel
theorem ck_75 : (tab 75).all (chE 75) = true := by decide +kernel
theorem ck_76 : (tab 76).all (chE 76) = true := by decide +kernel
theorem ck_77 : (tab 77).all (chE 77) = true := by decide +kernel
theorem ck_78 : (tab 78).all (chE 78) = true := by decide +kernel
theorem ck_79 : (tab 79).all (chE 79) = true := by decide +kernel
theorem ck_80 : (tab 80).all (chE 80) = true := by decide +kernel
theorem ck_81 : (tab 81).all (chE 81) = true := by decide +kernel
theorem ck_82 : (tab 82).all (chE 82) = true := by decide +kernel
theorem ck_83 : (tab 83).all (chE 83) = true := by decide +kernel
theorem ck_84 : (tab 84).all (chE 84) = true := by decide +kernel
theorem ck_85 : (tab 85).all (chE 85) = true := by decide +kernel
theorem ck_86 : (tab 86).all (chE 86) = true := by decide +kernel
theorem ck_87 : (tab 87).all (chE 87) = true := by decide +kernel
theorem ck_88 : (tab 88).all (chE 88) = true := by decide +kernel
theorem ck_89 : (tab 89).all (chE 89) = true := by decide +kernel
theorem ck_90 : (tab 90).all (chE 90) = true := by decide +kernel
theorem ck_91 : (tab 91).all (chE 91) = true := by decide +kernel
theorem ck_92 : (tab 92).all (chE 92) = true := by decide +kernel
theorem ck_93 : (tab 93).all (chE 93) = true := by decide +kernel
theorem ck_94 : (tab 94).all (chE 94) = true := by decide +kernel
theorem ck_95 : (tab 95).all (chE 95) = true := by decide +kernel
theorem ck_96 : (tab 96).all (chE 96) = true := by decide +kernel
theorem ck_97 : (tab 97).all (chE 97) = true := by decide +kernel
theorem ck_98 : (tab 98).all (chE 98) = true := by decide +kernel
theorem ck_99 : (tab 99).all (chE 99) = true := by decide +kernel
theorem ck_100 : (tab 100).all (chE 100) = true := by decide +kernel
theorem ck_101 : (tab 101).all (chE 101) = true := by decide +kernel
theorem ck_102 : (tab 102).all (chE 102) = true := by decide +kernel
theorem ck_103 : (tab 103).all (chE 103) = true := by decide +kernel
theorem ck_104 : (tab 104).all (chE 104) = true := by decide +kernel
theorem ck_105 : (tab 105).all (chE 105) = true := by decide +kernel
theorem ck_106 : (tab 106).all (chE 106) = true := by decide +kernel
theorem ck_107 : (tab 107).all (chE 107) = true := by decide +kernel
theorem ck_108 : (tab 108).all (chE 108) = true := by decide +kernel
theorem ck_109 : (tab 109).all (chE 109) = true := by decide +kernel
theorem ck_110 : (tab 110).all (chE 110) = true := by decide +kernel
theorem ck_111 : (tab 111).all (chE 111) = true := by decide +kernel
theorem ck_112 : (tab 112).all (chE 112) = true := by decide +kernel
theorem ck_113 : (tab 113).all (chE 113) = true := by decide +kernel
theorem ck_114 : (tab 114).all (chE 114) = true := by decide +kernel
theorem ck_115 : (tab 115).all (chE 115) = true := by decide +kernel
theorem ck_116 : (tab 116).all (chE 116) = true := by decide +kernel
theorem ck_117 : (tab 117).all (chE 117) = true := by decide +kernel
theorem ck_118 : (tab 118).all (chE 118) = true := by decide +kernel
theorem ck_119 : (tab 119).all (chE 119) = true := by decide +kernel
theorem ck_120 : (tab 120).all (chE 120) = true := by decide +kernel
theorem ck_121 : (tab 121).all (chE 121) = true := by decide +kernel
theorem ck_122 : (tab 122).all (chE 122) = true := by decide +kernel
theorem ck_123 : (tab 123).all (chE 123) = true := by decide +kernel
theorem ck_124 : (tab 124).all (chE 124) = true := by decide +kernel
theorem ck_125 : (tab 125).all (chE 125) = true := by decide +kernel
theorem ck_126 : (tab 126).all (chE 126) = true := by decide +kernel
theorem ck_127 : (tab 127).all (chE 127) = true := by decide +kernel
theorem ck_128 : (tab 128).all (chE 128) = true := by decide +kernel
theorem ck_129 : (tab 129).all (chE 129) = true := by decide +kernel
theorem ck_130 : (tab 130).all (chE 130) = true := by decide +kernel
theorem ck_131 : (tab 131).all (chE 131) = true := by decide +kernel
theorem ck_132 : (tab 132).all (chE 132) = true := by decide +kernel
theorem ck_133 : (tab 133).all (chE 133) = true := by decide +kernel
theorem ck_134 : (tab 134).all (chE 134) = true := by decide +kernel
theorem ck_135 : (tab 135).all (chE 135) = true := by decide +kernel
theorem ck_136 : (tab 136).all (chE 136) = true := by decide +kernel
theorem ck_137 : (tab 137).all (chE 137) = true := by decide +kernel
theorem ck_138 : (tab 138).all (chE 138) = true := by decide +kernel
theorem ck_139 : (tab 139).all (chE 139) = true := by decide +kernel
theorem ck_140 : (tab 140).all (chE 140) = true := by decide +kernel
theorem ck_141 : (tab 141).all (chE 141) = true := by decide +kernel
theorem ck_142 : (tab 142).all (chE 142) = true := by decide +kernel
theorem ck_143 : (tab 143).all (chE 143) = true := by decide +kernel
theorem ck_144 : (tab 144).all (chE 144) = true := by decide +kernel
theorem ck_145 : (tab 145).all (chE 145) = true := by decide +kernel
theorem ck_146 : (tab 146).all (chE 146) = true := by decide +kernel
theorem ck_147 : (tab 147).all (chE 147) = true := by decide +kernel
theorem ck_148 : (tab 148).all (chE 148) = true := by decide +kernel
theorem ck_149 : (tab 149).all (chE 149) = true := by decide +kernel
theorem ck_150 : (tab 150).all (chE 150) = true := by decide +kernel
theorem ck_151 : (tab 151).all (chE 151) = true := by decide +kernel
theorem ck_152 : (tab 152).all (chE 152) = true := by decide +kernel
theorem ck_153 : (tab 153).all (chE 153) = true := by decide +kernel
theorem ck_154 : (tab 154).all (chE 154) = true := by decide +kernel
theorem ck_155 : (tab 155).all (chE 155) = true := by decide +kernel
theorem ck_156 : (tab 156).all (chE 156) = true := by decide +kernel
theorem ck_157 : (tab 157).all (chE 157) = true := by decide +kernel
theorem ck_158 : (tab 158).all (chE 158) = true := by decide +kernel
theorem ck_159 : (tab 159).all (chE 159) = true := by decide +kernel
theorem ck_160 : (tab 160).all (chE 160) = true := by decide +kernel
theorem ck_161 : (tab 161).all (chE 161) = true := by decide +kernel
theorem ck_162 : (tab 162).all (chE 162) = true := by decide +kernel
theorem ck_163 : (tab 163).all (chE 163) = true := by decide +kernel
theorem ck_164 : (tab 164).all (chE 164) = true := by decide +kernel
theorem ck_165 : (tab 165).all (chE 165) = true := by decide +kernel
theorem ck_166 : (tab 166).all (chE 166) = true := by decide +kernel
theorem ck_167 : (tab 167).all (chE 167) = true := by decide +kernel
theorem ck_168 : (tab 168).all (chE 168) = true := by decide +kernel
theorem ck_169 : (tab 169).all (chE 169) = true := by decide +kernel
theorem ck_170 : (tab 170).all (chE 170) = true := by decide +kernel
theorem ck_171 : (tab 171).all (chE 171) = true := by decide +kernel
theorem ck_172 : (tab 172).all (chE 172) = true := by decide +kernel
theorem ck_173 : (tab 173).all (chE 173) = true := by decide +kernel
theorem ck_174 : (tab 174).all (chE 174) = true := by decide +kernel
theorem ck_175 : (tab 175).all (chE 175) = true := by decide +kernel
theorem ck_176 : (tab 176).all (chE 176) = true := by decide +kernel
theorem ck_177 : (tab 177).all (chE 177) = true := by decide +kernel
theorem ck_178 : (tab 178).all (chE 178) = true := by decide +kernel
theorem ck_179 : (tab 179).all (chE 179) = true := by decide +kernel
theorem ck_180 : (tab 180).all (chE 180) = true := by decide +kernel
theorem ck_181 : (tab 181).all (chE 181) = true := by decide +kernel
theorem ck_182 : (tab 182).all (chE 182) = true := by decide +kernel
theorem ck_183 : (tab 183).all (chE 183) = true := by decide +kernel
theorem ck_184 : (tab 184).all (chE 184) = true := by decide +kernel
theorem ck_185 : (tab 185).all (chE 185) = true := by decide +kernel
theorem ck_186 : (tab 186).all (chE 186) = true := by decide +kernel
theorem ck_187 : (tab 187).all (chE 187) = true := by decide +kernel
theorem ck_188 : (tab 188).all (chE 188) = true := by decide +kernel
theorem ck_189 : (tab 189).all (chE 189) = true := by decide +kernel
theorem ck_190 : (tab 190).all (chE 190) = true := by decide +kernel
theorem ck_191 : (tab 191).all (chE 191) = true := by decide +kernel
theorem ck_192 : (tab 192).all (chE 192) = true := by decide +kernel
theorem ck_193 : (tab 193).all (chE 193) = true := by decide +kernel
theorem ck_194 : (tab 194).all (chE 194) = true := by decide +kernel
theorem ck_195 : (tab 195).all (chE 195) = true := by decide +kernel
theorem ck_196 : (tab 196).all (chE 196) = true := by decide +kernel
theorem ck_197 : (tab 197).all (chE 197) = true := by decide +kernel
theorem ck_198 : (tab 198).all (chE 198) = true := by decide +kernel
theorem ck_199 : (tab 199).all (chE 199) = true := by decide +kernel
theorem ck_200 : (tab 200).all (chE 200) = true := by decide +kernel
theorem ck_201 : (tab 201).all (chE 201) = true := by decide +kernel
theorem ck_202 : (tab 202).all (chE 202) = true := by decide +kernel
theorem ck_203 : (tab 203).all (chE 203) = true := by decide +kernel
theorem ck_204 : (tab 204).all (chE 204) = true := by decide +kernel
theorem ck_205 : (tab 205).all (chE 205) = true := by decide +kernel
theorem ck_206 : (tab 206).all (chE 206) = true := by decide +kernel
theorem ck_207 : (tab 207).all (chE 207) = true := by decide +kernel
theorem ck_208 : (tab 208).all (chE 208) = true := by decide +kernel
theorem ck_209 : (tab 209).all (chE 209) = true := by decide +kernel
theorem ck_210 : (tab 210).all (chE 210) = true := by decide +kernel
theorem ck_211 : (tab 211).all (chE 211) = true := by decide +kernel
theorem ck_212 : (tab 212).all (chE 212) = true := by decide +kernel
theorem ck_213 : (tab 213).all (chE 213) = true := by decide +kernel
theorem ck_214 : (tab 214).all (chE 214) = true := by decide +kernel
theorem ck_215 : (tab 215).all (chE 215) = true := by decide +kernel
theorem ck_216 : (tab 216).all (chE 216) = true := by decide +kernel
theorem ck_217 : (tab 217).all (chE 217) = true := by decide +kernel
theorem ck_218 : (tab 218).all (chE 218) = true := by decide +kernel
theorem ck_219 : (tab 219).all (chE 219) = true := by decide +kernel
theorem ck_220 : (tab 220).all (chE 220) = true := by decide +kernel
theorem ck_221 : (tab 221).all (chE 221) = true := by decide +kernel
theorem ck_222 : (tab 222).all (chE 222) = true := by decide +kernel
theorem ck_223 : (tab 223).all (chE 223) = true := by decide +kernel
theorem ck_224 : (tab 224).all (chE 224) = true := by decide +kernel
theorem ck_225 : (tab 225).all (chE 225) = true := by decide +kernel
theorem ck_226 : (tab 226).all (chE 226) = true := by decide +kernel
theorem ck_227 : (tab 227).all (chE 227) = true := by decide +kernel
theorem ck_228 : (tab 228).all (chE 228) = true := by decide +kernel
theorem ck_229 : (tab 229).all (chE 229) = true := by decide +kernel
theorem ck_230 : (tab 230).all (chE 230) = true := by decide +kernel
theorem ck_231 : (tab 231).all (chE 231) = true := by decide +kernel
theorem ck_232 : (tab 232).all (chE 232) = true := by decide +kernel
theorem ck_233 : (tab 233).all (chE 233) = true := by decide +kernel
theorem ck_234 : (tab 234).all (chE 234) = true := by decide +kernel
theorem ck_235 : (tab 235).all (chE 235) = true := by decide +kernel
theorem ck_236 : (tab 236).all (chE 236) = true := by decide +kernel
theorem ck_237 : (tab 237).all (chE 237) = true := by decide +kernel
theorem ck_238 : (tab 238).all (chE 238) = true := by decide +kernel
theorem ck_239 : (tab 239).all (chE 239) = true := by decide +kernel
theorem ck_240 : (tab 240).all (chE 240) = true := by decide +kernel
theorem ck_241 : (tab 241).all (chE 241) = true := by decide +kernel
theorem ck_242 : (tab 242).all (chE 242) = true := by decide +kernel
theorem ck_243 : (tab 243).all (chE 243) = true := by decide +kernel
theorem ck_244 : (tab 244).all (chE 244) = true := by decide +kernel
theorem cm_1 : chM 1 = true := by decide +kernel
theorem cm_2 : chM 2 = true := by decide +kernel
theorem cm_3 : chM 3 = true := by decide +kernel
theorem cm_4 : chM 4 = true := by decide +kernel
theorem cm_5 : chM 5 = true := by decide +kernel
theorem cm_6 : chM 6 = true := by decide +kernel
theorem cm_7 : chM 7 = true := by decide +kernel
theorem cm_8 : chM 8 = true := by decide +kernel
theorem cm_9 : chM 9 = true := by decide +kernel
theorem cm_10 : chM 10 = true := by decide +kernel
theorem cm_11 : chM 11 = true := by decide +kernel
theorem cm_12 : chM 12 = true := by decide +kernel
theorem cm_13 : chM 13 = true := by decide +kernel
theorem cm_14 : chM 14 = true := by decide +kernel
theorem cm_15 : chM 15 = true := by decide +kernel
theorem cm_16 : chM 16 = true := by decide +kernel
theorem cm_17 : chM 17 = true := by decide +kernel
theorem cm_18 : chM 18 = true := by decide +kernel
theorem cm_19 : chM 19 = true := by decide +kernel
theorem cm_20 : chM 20 = true := by decide +kernel
theorem cm_21 : chM 21 = true := by decide +kernel
theorem cm_22 : chM 22 = true := by decide +kernel
theorem cm_23 : chM 23 = true := by decide +kernel
theorem cm_24 : chM 24 = true := by decide +kernel
theorem cm_25 : chM 25 = true := by decide +kernel
theorem cm_26 : chM 26 = true := by decide +kernel
theorem cm_27 : chM 27 = true := by decide +kernel
theorem cm_28 : chM 28 = true := by decide +kernel
theorem cm_29 : chM 29 = true := by decide +kernel
theorem cm_30 : chM 30 = true := by decide +kernel
theorem cm_31 : chM 31 = true := by decide +kernel
theorem cm_32 : chM 32 = true := by decide +kernel
theorem cm_33 : chM 33 = true := by decide +kernel
theorem cm_34 : chM 34 = true := by decide +kernel
theorem cm_35 : chM 35 = true := by decide +kernel
theorem cm_36 : chM 36 = true := by decide +kernel
theorem cm_37 : chM 37 = true := by decide +kernel
theorem cm_38 : chM 38 = true := by decide +kernel
theorem cm_39 : chM 39 = true := by decide +kernel
theorem cm_40 : chM 40 = true := by decide +kernel
theorem cm_41 : chM 41 = true := by decide +kernel
theorem cm_42 : chM 42 = true := by decide +kernel
theorem cm_43 : chM 43 = true := by decide +kernel
theorem cm_44 : chM 44 = true := by decide +kernel
theorem cm_45 : chM 45 = true := by decide +kernel
theorem cm_46 : chM 46 = true := by decide +kernel
theorem cm_47 : chM 47 = true := by decide +kernel
theorem cm_48 : chM 48 = true := by decide +kernel
theorem cm_49 : chM 49 = true := by decide +kernel
theorem cm_50 : chM 50 = true := by decide +kernel
theorem cm_51 : chM 51 = true := by decide +kernel
theorem cm_52 : chM 52 = true := by decide +kernel
theorem cm_53 : chM 53 = true := by decide +kernel
theorem cm_54 : chM 54 = true := by decide +kernel
theorem cm_55 : chM 55 = true := by decide +kernel
theorem cm_56 : chM 56 = true := by decide +kernel
theorem cm_57 : chM 57 = true := by decide +kernel
theorem cm_58 : chM 58 = true := by decide +kernel
theorem cm_59 : chM 59 = true := by decide +kernel
theorem cm_60 : chM 60 = true := by decide +kernel
theorem cm_61 : chM 61 = true := by decide +kernel
theorem cm_62 : chM 62 = true := by decide +kernel
theorem cm_63 : chM 63 = true := by decide +kernel
theorem cm_64 : chM 64 = true := by decide +kernel
theorem cm_65 : chM 65 = true := by decide +kernel
theorem cm_66 : chM 66 = true := by decide +kernel
theorem cm_67 : chM 67 = true := by decide +kernel
theorem cm_68 : chM 68 = true := by decide +kernel
theorem cm_69 : chM 69 = true := by decide +kernel
theorem cm_70 : chM 70 = true := by decide +kernel
theorem cm_71 : chM 71 = true := by decide +kernel
theorem cm_72 : chM 72 = true := by decide +kernel
theorem cm_73 : chM 73 = true := by decide +kernel
theorem cm_74 : chM 74 = true := by decide +kernel
theorem cm_75 : chM 75 = true := by decide +kernel
theorem cm_76 : chM 76 = true := by decide +kernel
theorem cm_77 : chM 77 = true := by decide +kernel
theorem cm_78 : chM 78 = true := by decide +kernel
theorem cm_79 : chM 79 = true := by decide +kernel
theorem cm_80 : chM 80 = true := by decide +kernel
theorem cm_81 : chM 81 = true := by decide +kernel
theorem cm_82 : chM 82 = true := by decide +kernel
theorem cm_83 : chM 83 = true := by decide +kernel
theorem cm_84 : chM 84 = true := by decide +kernel
theorem cm_85 : chM 85 = true := by decide +kernel
theorem cm_86 : chM 86 = true := by decide +kernel
theorem cm_87 : chM 87 = true := by decide +kernel
theorem cm_88 : chM 88 = true := by decide +kernel
theorem cm_89 : chM 89 = true := by decide +kernel
theorem cm_90 : chM 90 = true := by decide +kernel
theorem cm_91 : chM 91 = true := by decide +kernel
theorem cm_92 : chM 92 = true := by decide +kernel
theorem cm_93 : chM 93 = true := by decide +kernel
theorem cm_94 : chM 94 = true := by decide +kernel
theorem cm_95 : chM 95 = true := by decide +kernel
theorem cm_96 : chM 96 = true := by decide +kernel
theorem cm_97 : chM 97 = true := by decide +kernel
theorem cm_98 : chM 98 = true := by decide +kernel
theorem cm_99 : chM 99 = true := by decide +kernel
theorem cm_100 : chM 100 = true := by decide +kernel
theorem cm_101 : chM 101 = true := by decide +kernel
theorem cm_102 : chM 102 = true := by decide +kernel
theorem cm_103 : chM 103 = true := by decide +kernel
theorem cm_104 : chM 104 = true := by decide +kernel
theorem cm_105 : chM 105 = true := by decide +kernel
theorem cm_106 : chM 106 = true := by decide +kernel
theorem cm_107 : chM 107 = true := by decide +kernel
theorem cm_108 : chM 108 = true := by decide +kernel
theorem cm_109 : chM 109 = true := by decide +kernel
theorem cm_110 : chM 110 = true := by decide +kernel
theorem cm_111 : chM 111 = true := by decide +kernel
theorem cm_112 : chM 112 = true := by decide +kernel
theorem cm_113 : chM 113 = true := by decide +kernel
theorem cm_114 : chM 114 = true := by decide +kernel
theorem cm_115 : chM 115 = true := by decide +kernel
theorem cm_116 : chM 116 = true := by decide +kernel
theorem cm_117 : chM 117 = true := by decide +kernel
theorem cm_118 : chM 118 = true := by decide +kernel
theorem cm_119 : chM 119 = true := by decide +kernel
theorem cm_120 : chM 120 = true := by decide +kernel
theorem cm_121 : chM 121 = true := by decide +kernel
theorem cm_122 : chM 122 = true := by decide +kernel
theorem cm_123 : chM 123 = true := by decide +kernel
theorem cm_124 : chM 124 = true := by decide +kernel
theorem cm_125 : chM 125 = true := by decide +kernel
theorem cm_126 : chM 126 = true := by decide +kernel
theorem cm_127 : chM 127 = true := by decide +kernel
theorem cm_128 : chM 128 = true := by decide +kernel
theorem cm_129 : chM 129 = true := by decide +kernel
theorem cm_130 : chM 130 = true := by decide +kernel
theorem cm_131 : chM 131 = true := by decide +kernel
theorem cm_132 : chM 132 = true := by decide +kernel
theorem cm_133 : chM 133 = true := by decide +kernel
theorem cm_134 : chM 134 = true := by decide +kernel
theorem cm_135 : chM 135 = true := by decide +kernel
theorem cm_136 : chM 136 = true := by decide +kernel
theorem cm_137 : chM 137 = true := by decide +kernel
theorem cm_138 : chM 138 = true := by decide +kernel
theorem cm_139 : chM 139 = true := by decide +kernel
theorem cm_140 : chM 140 = true := by decide +kernel
theorem cm_141 : chM 141 = true := by decide +kernel
theorem cm_142 : chM 142 = true := by decide +kernel
theorem cm_143 : chM 143 = true := by decide +kernel
theorem cm_144 : chM 144 = true := by decide +kernel
theorem cm_145 : chM 145 = true := by decide +kernel
theorem cm_146 : chM 146 = true := by decide +kernel
theorem cm_147 : chM 147 = true := by decide +kernel
theorem cm_148 : chM 148 = true := by decide +kernel
theorem cm_149 : chM 149 = true := by decide +kernel
theorem cm_150 : chM 150 = true := by decide +kernel
theorem cm_151 : chM 151 = true := by decide +kernel
theorem cm_152 : chM 152 = true := by decide +kernel
theorem cm_153 : chM 153 = true := by decide +kernel
theorem cm_154 : chM 154 = true := by decide +kernel
theorem cm_155 : chM 155 = true := by decide +kernel
theorem cm_156 : chM 156 = true := by decide +kernel
theorem cm_157 : chM 157 = true := by decide +kernel
theorem cm_158 : chM 158 = true := by decide +kernel
theorem cm_159 : chM 159 = true := by decide +kernel
theorem cm_160 : chM 160 = true := by decide +kernel
theorem cm_161 : chM 161 = true := by decide +kernel
theorem cm_162 : chM 162 = true := by decide +kernel
theorem cm_163 : chM 163 = true := by decide +kernel
theorem cm_164 : chM 164 = true := by decide +kernel
theorem cm_165 : chM 165 = true := by decide +kernel
theorem cm_166 : chM 166 = true := by decide +kernel
theorem cm_167 : chM 167 = true := by decide +kernel
theorem cm_168 : chM 168 = true := by decide +kernel
theorem cm_169 : chM 169 = true := by decide +kernel
theorem cm_170 : chM 170 = true := by decide +kernel
theorem cm_171 : chM 171 = true := by decide +kernel
theorem cm_172 : chM 172 = true := by decide +kernel
theorem cm_173 : chM 173 = true := by decide +kernel
theorem cm_174 : chM 174 = true := by decide +kernel
theorem cm_175 : chM 175 = true := by decide +kernel
theorem cm_176 : chM 176 = true := by decide +kernel
theorem cm_177 : chM 177 = true := by decide +kernel
theorem cm_178 : chM 178 = true := by decide +kernel
theorem cm_179 : chM 179 = true := by decide +kernel
theorem cm_180 : chM 180 = true := by decide +kernel
theorem cm_181 : chM 181 = true := by decide +kernel
theorem cm_182 : chM 182 = true := by decide +kernel
theorem cm_183 : chM 183 = true := by decide +kernel
theorem cm_184 : chM 184 = true := by decide +kernel
theorem cm_185 : chM 185 = true := by decide +kernel
theorem cm_186 : chM 186 = true := by decide +kernel
theorem cm_187 : chM 187 = true := by decide +kernel
theorem cm_188 : chM 188 = true := by decide +kernel
theorem cm_189 : chM 189 = true := by decide +kernel
theorem cm_190 : chM 190 = true := by decide +kernel
theorem cm_191 : chM 191 = true := by decide +kernel
theorem cm_192 : chM 192 = true := by decide +kernel
theorem cm_193 : chM 193 = true := by decide +kernel
theorem cm_194 : chM 194 = true := by decide +kernel
theorem cm_195 : chM 195 = true := by decide +kernel
theorem cm_196 : chM 196 = true := by decide +kernel
theorem cm_197 : chM 197 = true := by decide +kernel
theorem cm_198 : chM 198 = true := by decide +kernel
theorem cm_199 : chM 199 = true := by decide +kernel
theorem cm_200 : chM 200 = true := by decide +kernel
theorem cm_201 : chM 201 = true := by decide +kernel
theorem cm_202 : chM 202 = true := by decide +kernel
theorem cm_203 : chM 203 = true := by decide +kernel
theorem cm_204 : chM 204 = true := by decide +kernel
theorem cm_205 : chM 205 = true := by decide +kernel
theorem cm_206 : chM 206 = true := by decide +kernel
theorem cm_207 : chM 207 = true := by decide +kernel
theorem cm_208 : chM 208 = true := by decide +kernel
theorem cm_209 : chM 209 = true := by decide +kernel
theorem cm_210 : chM 210 = true := by decide +kernel
theorem cm_211 : chM 211 = true := by decide +kernel
theorem cm_212 : chM 212 = true := by decide +kernel
theorem cm_213 : chM 213 = true := by decide +kernel
theorem cm_214 : chM 214 = true := by decide +kernel
theorem cm_215 : chM 215 = true := by decide +kernel
theorem cm_216 : chM 216 = true := by decide +kernel
theorem cm_217 : chM 217 = true := by decide +kernel
theorem cm_218 : chM 218 = true := by decide +kernel
theorem cm_219 : chM 219 = true := by decide +kernel
theorem cm_220 : chM 220 = true := by decide +kernel
theorem cm_221 : chM 221 = true := by decide +kernel
theorem cm_222 : chM 222 = true := by decide +kernel
theorem cm_223 : chM 223 = true := by decide +kernel
theorem cm_224 : chM 224 = true := by decide +kernel
theorem cm_225 : chM 225 = true := by decide +kernel
theorem cm_226 : chM 226 = true := by decide +kernel
theorem cm_227 : chM 227 = true := by decide +kernel
theorem cm_228 : chM 228 = true := by decide +kernel
theorem cm_229 : chM 229 = true := by decide +kernel
theorem cm_230 : chM 230 = true := by decide +kernel
theorem cm_231 : chM 231 = true := by decide +kernel
theorem cm_232 : chM 232 = true := by decide +kernel
theorem cm_233 : chM 233 = true := by decide +kernel
theorem cm_234 : chM 234 = true := by decide +kernel
theorem cm_235 : chM 235 = true := by decide +kernel
theorem cm_236 : chM 236 = true := by decide +kernel
theorem cm_237 : chM 237 = true := by decide +kernel
theorem cm_238 : chM 238 = true := by decide +kernel
theorem cm_239 : chM 239 = true := by decide +kernel
theorem cm_240 : chM 240 = true := by decide +kernel
theorem cm_241 : chM 241 = true := by decide +kernel
theorem cm_242 : chM 242 = true := by decide +kernel
theorem cm_243 : chM 243 = true := by decide +kernel
theorem cm_244 : chM 244 = true := by decide +kernel
theorem ck_all : ∀ y, y < 245 → (tab y).all (chE y) = true := by
  intro y hy
  match y, hy with
  | 0, _ => exact ck_0
  | 1, _ => exact ck_1
  | 2, _ => exact ck_2
  | 3, _ => exact ck_3
  | 4, _ => exact ck_4
  | 5, _ => exact ck_5
  | 6, _ => exact ck_6
  | 7, _ => exact ck_7
  | 8, _ => exact ck_8
  | 9, _ => exact ck_9
  | 10, _ => exact ck_10
  | 11, _ => exact ck_11
  | 12, _ => exact ck_12
  | 13, _ => exact ck_13
  | 14, _ => exact ck_14
  | 15, _ => exact ck_15
  | 16, _ => exact ck_16
  | 17, _ => exact ck_17
  | 18, _ => exact ck_18
  | 19, _ => exact ck_19
  | 20, _ => exact ck_20
  | 21, _ => exact ck_21
  | 22, _ => exact ck_22
  | 23, _ => exact ck_23
  | 24, _ => exact ck_24
  | 25, _ => exact ck_25
  | 26, _ => exact ck_26
  | 27, _ => exact ck_27
  | 28, _ => exact ck_28
  | 29, _ => exact ck_29
  | 30, _ => exact ck_30
  | 31, _ => exact ck_31
  | 32, _ => exact ck_32
  | 33, _ => exact ck_33
  | 34, _ => exact ck_34
  | 35, _ => exact ck_35
  | 36, _ => exact ck_36
  | 37, _ => exact ck_37
  | 38, _ => exact ck_38
  | 39, _ => exact ck_39
  | 40, _ => exact ck_40
  | 41, _ => exact ck_41
  | 42, _ => exact ck_42
  | 43, _ => exact ck_43
  | 44, _ => exact ck_44
  | 45, _ => exact ck_45
  | 46, _ => exact ck_46
  | 47, _ => exact ck_47
  | 48, _ => exact ck_48
  | 49, _ => exact ck_49
  | 50, _ => exact ck_50
  | 51, _ => exact ck_51
  | 52, _ => exact ck_52
  | 53, _ => exact ck_53
  | 54, _ => exact ck_54
  | 55, _ => exact ck_55
  | 56, _ => exact ck_56
  | 57, _ => exact ck_57
  | 58, _ => exact ck_58
  | 59, _ => exact ck_59
  | 60, _ => exact ck_60
  | 61, _ => exact ck_61
  | 62, _ => exact ck_62
  | 63, _ => exact ck_63
  | 64, _ => exact ck_64
  | 65, _ => exact ck_65
  | 66, _ => exact ck_66
  | 67, _ => exact ck_67
  | 68, _ => exact ck_68
  | 69, _ => exact ck_69
  | 70, _ => exact ck_70
  | 71, _ => exact ck_71
  | 72, _ => exact ck_72
  | 73, _ => exact ck_73
  | 74, _ => exact ck_74
  | 75, _ => exact ck_75
  | 76, _ => exact ck_76
  | 77, _ => exact ck_77
  | 78, _ => exact ck_78
  | 79, _ => exact ck_79
  | 80, _ => exact ck_80
  | 81, _ => exact ck_81
  | 82, _ => exact ck_82
  | 83, _ => exact ck_83
  | 84, _ => exact ck_84
  | 85, _ => exact ck_85
  | 86, _ => exact ck_86
  | 87, _ => exact ck_87
  | 88, _ => exact ck_88
  | 89, _ => exact ck_89
  | 90, _ => exact ck_90
  | 91, _ => exact ck_91
  | 92, _ => exact ck_92
  | 93, _ => exact ck_93
  | 94, _ => exact ck_94
  | 95, _ => exact ck_95
  | 96, _ => exact ck_96
  | 97, _ => exact ck_97
  | 98, _ => exact ck_98
  | 99, _ => exact ck_99
  | 100, _ => exact ck_100
  | 101, _ => exact ck_101
  | 102, _ => exact ck_102
  | 103, _ => exact ck_103
  | 104, _ => exact ck_104
  | 105, _ => exact ck_105
  | 106, _ => exact ck_106
  | 107, _ => exact ck_107
  | 108, _ => exact ck_108
  | 109, _ => exact ck_109
  | 110, _ => exact ck_110
  | 111, _ => exact ck_111
  | 112, _ => exact ck_112
  | 113, _ => exact ck_113
  | 114, _ => exact ck_114
  | 115, _ => exact ck_115
  | 116, _ => exact ck_116
  | 117, _ => exact ck_117
  | 118, _ => exact ck_118
  | 119, _ => exact ck_119
  | 120, _ => exact ck_120
  | 121, _ => exact ck_121
  | 122, _ => exact ck_122
  | 123, _ => exact ck_123
  | 124, _ => exact ck_124
  | 125, _ => exact ck_125
  | 126, _ => exact ck_126
  | 127, _ => exact ck_127
  | 128, _ => exact ck_128
  | 129, _ => exact ck_129
  | 130, _ => exact ck_130
  | 131, _ => exact ck_131
  | 132, _ => exact ck_132
  | 133, _ => exact ck_133
  | 134, _ => exact ck_134
  | 135, _ => exact ck_135
  | 136, _ => exact ck_136
  | 137, _ => exact ck_137
  | 138, _ => exact ck_138
  | 139, _ => exact ck_139
  | 140, _ => exact ck_140
  | 141, _ => exact ck_141
  | 142, _ => exact ck_142
  | 143, _ => exact ck_143
  | 144, _ => exact ck_144
  | 145, _ => exact ck_145
  | 146, _ => exact ck_146
  | 147, _ => exact ck_147
  | 148, _ => exact ck_148
  | 149, _ => exact ck_149
  | 150, _ => exact ck_150
  | 151, _ => exact ck_151
  | 152, _ => exact ck_152
  | 153, _ => exact ck_153
  | 154, _ => exact ck_154
  | 155, _ => exact ck_155
  | 156, _ => exact ck_156
  | 157, _ => exact ck_157
  | 158, _ => exact ck_158
  | 159, _ => exact ck_159
  | 160, _ => exact ck_160
  | 161, _ => exact ck_161
  | 162, _ => exact ck_162
  | 163, _ => exact ck_163
  | 164, _ => exact ck_164
  | 165, _ => exact ck_165
  | 166, _ => exact ck_166
  | 167, _ => exact ck_167
  | 168, _ => exact ck_168
  | 169, _ => exact ck_169
  | 170, _ => exact ck_170
  | 171, _ => exact ck_171
  | 172, _ => exact ck_172
  | 173, _ => exact ck_173
  | 174, _ => exact ck_174
  | 175, _ => exact ck_175
  | 176, _ => exact ck_176
  | 177, _ => exact ck_177
  | 178, _ => exact ck_178
  | 179, _ => exact ck_179
  | 180, _ => exact ck_180
  | 181, _ => exact ck_181
  | 182, _ => exact ck_182
  | 183, _ => exact ck_183
  | 184, _ => exact ck_184
  | 185, _ => exact ck_185
  | 186, _ => exact ck_186
  | 187, _ => exact ck_187
  | 188, _ => exact ck_188
  | 189, _ => exact ck_189
  | 190, _ => exact ck_190
  | 191, _ => exact ck_191
  | 192, _ => exact ck_192
  | 193, _ => exact ck_193
  | 194, _ => exact ck_194
  | 195, _ => exact ck_195
  | 196, _ => exact ck_196
  | 197, _ => exact ck_197
  | 198, _ => exact ck_198
  | 199, _ => exact ck_199
  | 200, _ => exact ck_200
  | 201, _ => exact ck_201
  | 202, _ => exact ck_202
  | 203, _ => exact ck_203
  | 204, _ => exact ck_204
  | 205, _ => exact ck_205
  | 206, _ => exact ck_206
  | 207, _ => exact ck_207
  | 208, _ => exact ck_208
  | 209, _ => exact ck_209
  | 210, _ => exact ck_210
  | 211, _ => exact ck_211
  | 212, _ => exact ck_212
  | 213, _ => exact ck_213
  | 214, _ => exact ck_214
  | 215, _ => exact ck_215
  | 216, _ => exact ck_216
  | 217, _ => exact ck_217
  | 218, _ => exact ck_218
  | 219, _ => exact ck_219
  | 220, _ => exact ck_220
  | 221, _ => exact ck_221
  | 222, _ => exact ck_222
  | 223, _ => exact ck_223
  | 224, _ => exact ck_224
  | 225, _ => exact ck_225
  | 226, _ => exact ck_226
  | 227, _ => exact ck_227
  | 228, _ => exact ck_228
  | 229, _ => exact ck_229
  | 230, _ => exact ck_230
  | 231, _ => exact ck_231
  | 232, _ => exact ck_232
  | 233, _ => exact ck_233
  | 234, _ => exact ck_234
  | 235, _ => exact ck_235
  | 236, _ => exact ck_236
  | 237, _ => exact ck_237
  | 238, _ => exact ck_238
  | 239, _ => exact ck_239
  | 240, _ => exact ck_240
  | 241, _ => exact ck_241
  | 242, _ => exact ck_242
  | 243, _ => exact ck_243
  | 244, _ => exact ck_244
  | k + 245, h => exact absurd h (by omega)
theorem cm_all : ∀ y, 0 < y → y < 245 → chM y = true := by
  intro y h0 hy
  match y, h0, hy with
  | 0, h, _ => exact absurd h (by omega)
  | 1, _, _ => exact cm_1
  | 2, _, _ => exact cm_2
  | 3, _, _ => exact cm_3
  | 4, _, _ => exact cm_4
  | 5, _, _ => exact cm_5
  | 6, _, _ => exact cm_6
  | 7, _, _ => exact cm_7
  | 8, _, _ => exact cm_8
  | 9, _, _ => exact cm_9
  | 10, _, _ => exact cm_10
  | 11, _, _ => exact cm_11
  | 12, _, _ => exact cm_12
  | 13, _, _ => exact cm_13
  | 14, _, _ => exact cm_14
  | 15, _, _ => exact cm_15
  | 16, _, _ => exact cm_16
  | 17, _, _ => exact cm_17
  | 18, _, _ => exact cm_18
  | 19, _, _ => exact cm_19
  | 20, _, _ => exact cm_20
  | 21, _, _ => exact cm_21
  | 22, _, _ => exact cm_22
  | 23, _, _ => exact cm_23
  | 24, _, _ => exact cm_24
  | 25, _, _ => exact cm_25
  | 26, _, _ => exact cm_26
  | 27, _, _ => exact cm_27
  | 28, _, _ => exact cm_28
  | 29, _, _ => exact cm_29
  | 30, _, _ => exact cm_30
  | 31, _, _ => exact cm_31
  | 32, _, _ => exact cm_32
  | 33, _, _ => exact cm_33
  | 34, _, _ => exact cm_34
  | 35, _, _ => exact cm_35
  | 36, _, _ => exact cm_36
  | 37, _, _ => exact cm_37
  | 38, _, _ => exact cm_38
  | 39, _, _ => exact cm_39
  | 40, _, _ => exact cm_40
  | 41, _, _ => exact cm_41
  | 42, _, _ => exact cm_42
  | 43, _, _ => exact cm_43
  | 44, _, _ => exact cm_44
  | 45, _, _ => exact cm_45
  | 46, _, _ => exact cm_46
  | 47, _, _ => exact cm_47
  | 48, _, _ => exact cm_48
  | 49, _, _ => exact cm_49
  | 50, _, _ => exact cm_50
  | 51, _, _ => exact cm_51
  | 52, _, _ => exact cm_52
  | 53, _, _ => exact cm_53
  | 54, _, _ => exact cm_54
  | 55, _, _ => exact cm_55
  | 56, _, _ => exact cm_56
  | 57, _, _ => exact cm_57
  | 58, _, _ => exact cm_58
  | 59, _, _ => exact cm_59
  | 60, _, _ => exact cm_60
  | 61, _, _ => exact cm_61
  | 62, _, _ => exact cm_62
  | 63, _, _ => exact cm_63
  | 64, _, _ => exact cm_64
  | 65, _, _ => exact cm_65
  | 66, _, _ => exact cm_66
  | 67, _, _ => exact cm_67
  | 68, _, _ => exact cm_68
  | 69, _, _ => exact cm_69
  | 70, _, _ => exact cm_70
  | 71, _, _ => exact cm_71
  | 72, _, _ => exact cm_72
  | 73, _, _ => exact cm_73
  | 74, _, _ => exact cm_74
  | 75, _, _ => exact cm_75
  | 76, _, _ => exact cm_76
  | 77, _, _ => exact cm_77
  | 78, _, _ => exact cm_78
  | 79, _, _ => exact cm_79
  | 80, _, _ => exact cm_80
  | 81, _, _ => exact cm_81
  | 82, _, _ => exact cm_82
  | 83, _, _ => exact cm_83
  | 84, _, _ => exact cm_84
  | 85, _, _ => exact cm_85
  | 86, _, _ => exact cm_86
  | 87, _, _ => exact cm_87
  | 88, _, _ => exact cm_88
  | 89, _, _ => exact cm_89
  | 90, _, _ => exact cm_90
  | 91, _, _ => exact cm_91
  | 92, _, _ => exact cm_92
  | 93, _, _ => exact cm_93
  | 94, _, _ => exact cm_94
  | 95, _, _ => exact cm_95
  | 96, _, _ => exact cm_96
  | 97, _, _ => exact cm_97
  | 98, _, _ => exact cm_98
  | 99, _, _ => exact cm_99
  | 100, _, _ => exact cm_100
  | 101, _, _ => exact cm_101
  | 102, _, _ => exact cm_102
  | 103, _, _ => exact cm_103
  | 104, _, _ => exact cm_104
  | 105, _, _ => exact cm_105
  | 106, _, _ => exact cm_106
  | 107, _, _ => exact cm_107
  | 108, _, _ => exact cm_108
  | 109, _, _ => exact cm_109
  | 110, _, _ => exact cm_110
  | 111, _, _ => exact cm_111
  | 112, _, _ => exact cm_112
  | 113, _, _ => exact cm_113
  | 114, _, _ => exact cm_114
  | 115, _, _ => exact cm_115
  | 116, _, _ => exact cm_116
  | 117, _, _ => exact cm_117
  | 118, _, _ => exact cm_118
  | 119, _, _ => exact cm_119
  | 120, _, _ => exact cm_120
  | 121, _, _ => exact cm_121
  | 122, _, _ => exact cm_122
  | 123, _, _ => exact cm_123
  | 124, _, _ => exact cm_124
  | 125, _, _ => exact cm_125
  | 126, _, _ => exact cm_126
  | 127, _, _ => exact cm_127
  | 128, _, _ => exact cm_128
  | 129, _, _ => exact cm_129
  | 130, _, _ => exact cm_130
  | 131, _, _ => exact cm_131
  | 132, _, _ => exact cm_132
  | 133, _, _ => exact cm_133
  | 134, _, _ => exact cm_134
  | 135, _, _ => exact cm_135
  | 136, _, _ => exact cm_136
  | 137, _, _ => exact cm_137
  | 138, _, _ => exact cm_138
  | 139, _, _ => exact cm_139
  | 140, _, _ => exact cm_140
  | 141, _, _ => exact cm_141
  | 142, _, _ => exact cm_142
  | 143, _, _ => exact cm_143
  | 144, _, _ => exact cm_144
  | 145, _, _ => exact cm_145
  | 146, _, _ => exact cm_146
  | 147, _, _ => exact cm_147
  | 148, _, _ => exact cm_148
  | 149, _, _ => exact cm_149
  | 150, _, _ => exact cm_150
  | 151, _, _ => exact cm_151
  | 152, _, _ => exact cm_152
  | 153, _, _ => exact cm_153
  | 154, _, _ => exact cm_154
  | 155, _, _ => exact cm_155
  | 156, _, _ => exact cm_156
  | 157, _, _ => exact cm_157
  | 158, _, _ => exact cm_158
  | 159, _, _ => exact cm_159
  | 160, _, _ => exact cm_160
  | 161, _, _ => exact cm_161
  | 162, _, _ => exact cm_162
  | 163, _, _ => exact cm_163
  | 164, _, _ => exact cm_164
  | 165, _, _ => exact cm_165
  | 166, _, _ => exact cm_166
  | 167, _, _ => exact cm_167
  | 168, _, _ => exact cm_168
  | 169, _, _ => exact cm_169
  | 170, _, _ => exact cm_170
  | 171, _, _ => exact cm_171
  | 172, _, _ => exact cm_172
  | 173, _, _ => exact cm_173
  | 174, _, _ => exact cm_174
  | 175, _, _ => exact cm_175
  | 176, _, _ => exact cm_176
  | 177, _, _ => exact cm_177
  | 178, _, _ => exact cm_178
  | 179, _, _ => exact cm_179
  | 180, _, _ => exact cm_180
  | 181, _, _ => exact cm_181
  | 182, _, _ => exact cm_182
  | 183, _, _ => exact cm_183
  | 184, _, _ => exact cm_184
  | 185, _, _ => exact cm_185
  | 186, _, _ => exact cm_186
  | 187, _, _ => exact cm_187
  | 188, _, _ => exact cm_188
  | 189, _, _ => exact cm_189
  | 190, _, _ => exact cm_190
  | 191, _, _ => exact cm_191
  | 192, _, _ => exact cm_192
  | 193, _, _ => exact cm_193
  | 194, _, _ => exact cm_194
  | 195, _, _ => exact cm_195
  | 196, _, _ => exact cm_196
  | 197, _, _ => exact cm_197
  | 198, _, _ => exact cm_198
  | 199, _, _ => exact cm_199
  | 200, _, _ => exact cm_200
  | 201, _, _ => exact cm_201
  | 202, _, _ => exact cm_202
  | 203, _, _ => exact cm_203
  | 204, _, _ => exact cm_204
  | 205, _, _ => exact cm_205
  | 206, _, _ => exact cm_206
  | 207, _, _ => exact cm_207
  | 208, _, _ => exact cm_208
  | 209, _, _ => exact cm_209
  | 210, _, _ => exact cm_210
  | 211, _, _ => exact cm_211
  | 212, _, _ => exact cm_212
  | 213, _, _ => exact cm_213
  | 214, _, _ => exact cm_214
  | 215, _, _ => exact cm_215
  | 216, _, _ => exact cm_216
  | 217, _, _ => exact cm_217
  | 218, _, _ => exact cm_218
  | 219, _, _ => exact cm_219
  | 220, _, _ => exact cm_220
  | 221, _, _ => exact cm_221
  | 222, _, _ => exact cm_222
  | 223, _, _ => exact cm_223
  | 224, _, _ => exact cm_224
  | 225, _, _ => exact cm_225
  | 226, _, _ => exact cm_226
  | 227, _, _ => exact cm_227
  | 228, _, _ => exact cm_228
  | 229, _, _ => exact cm_229
  | 230, _, _ => exact cm_230
  | 231, _, _ => exact cm_231
  | 232, _, _ => exact cm_232
  | 233, _, _ => exact cm_233
  | 234, _, _ => exact cm_234
  | 235, _, _ => exact cm_235
  | 236, _, _ => exact cm_236
  | 237, _, _ => exact cm_237
  | 238, _, _ => exact cm_238
  | 239, _, _ => exact cm_239
  | 240, _, _ => exact cm_240
  | 241, _, _ => exact cm_241
  | 242, _, _ => exact cm_242
  | 243, _, _ => exact cm_243
  | 244, _, _ => exact cm_244
  | k + 245, _, h => exact absurd h (by omega)
