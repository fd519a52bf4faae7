theorem k_en {args : Array Value} {s : State} (hs : ∀ c ∈ flatC (Jvm.Cond.and given_1 narrow_1), c.before args s = true) (hts : ∀ w ∈ lw_tbl, w.before args s = true) {A : Nat → Prop} (hA : ∀ a : Nat, a < s.heap.size → ¬ A a) : ∃ ad : Nat → Nat, va_En "VersionRanges$Sign" "LVersionRanges$Sign;" kEnN kEnF ad A s s.heap := by
  refine va_Enof (args := args) ?_ (hts _ (Wd_in _ w_6)) ?_ ?_ ?_ hA
  · intro i hi
    have hi : i < 8 := hi
    rcases (show i = 0 ∨ i = 1 ∨ i = 2 ∨ i = 3 ∨ i = 4 ∨ i = 5 ∨ i = 6 ∨ i = 7 by omega) with rfl | rfl | rfl | rfl | rfl | rfl | rfl | rfl
    · exact hts _ (List.mem_append_right _ a_83)
    · exact hts _ (List.mem_append_right _ a_251)
    · exact hts _ (List.mem_append_right _ a_241)
    · exact hts _ (List.mem_append_right _ a_239)
    · exact hts _ (List.mem_append_right _ a_245)
    · exact hts _ (List.mem_append_right _ a_243)
    · exact hts _ (List.mem_append_right _ a_247)
    · exact hts _ (List.mem_append_right _ a_249)
  · intro i hi
    have hi : i < 8 := hi
    rcases (show i = 0 ∨ i = 1 ∨ i = 2 ∨ i = 3 ∨ i = 4 ∨ i = 5 ∨ i = 6 ∨ i = 7 by omega) with rfl | rfl | rfl | rfl | rfl | rfl | rfl | rfl
    · exact hs _ f_4
    · exact hs _ f_60
    · exact hs _ f_15
    · exact hs _ f_9
    · exact hs _ f_30
    · exact hs _ f_22
    · exact hs _ f_39
    · exact hs _ f_49
  · intro q hq i hi
    have hi : i < 8 := hi
    have hq : q = kEnF[0] ∨ q = kEnF[1] ∨ q = kEnF[2] := by simpa [kEnF] using hq
    rcases hq with rfl | rfl | rfl
    · rcases (show i = 0 ∨ i = 1 ∨ i = 2 ∨ i = 3 ∨ i = 4 ∨ i = 5 ∨ i = 6 ∨ i = 7 by omega) with rfl | rfl | rfl | rfl | rfl | rfl | rfl | rfl
      · exact hs _ f_6
      · exact hs _ f_62
      · exact hs _ f_17
      · exact hs _ f_11
      · exact hs _ f_32
      · exact hs _ f_24
      · exact hs _ f_41
      · exact hs _ f_51
    · rcases (show i = 0 ∨ i = 1 ∨ i = 2 ∨ i = 3 ∨ i = 4 ∨ i = 5 ∨ i = 6 ∨ i = 7 by omega) with rfl | rfl | rfl | rfl | rfl | rfl | rfl | rfl
      · exact hs _ f_7
      · exact hs _ f_63
      · exact hs _ f_18
      · exact hs _ f_12
      · exact hs _ f_33
      · exact hs _ f_25
      · exact hs _ f_42
      · exact hs _ f_52
    · rcases (show i = 0 ∨ i = 1 ∨ i = 2 ∨ i = 3 ∨ i = 4 ∨ i = 5 ∨ i = 6 ∨ i = 7 by omega) with rfl | rfl | rfl | rfl | rfl | rfl | rfl | rfl
      · exact hs _ f_8
      · exact hs _ f_64
      · exact hs _ f_19
      · exact hs _ f_13
      · exact hs _ f_34
      · exact hs _ f_26
      · exact hs _ f_43
      · exact hs _ f_53
  · intro i j hi hj hij
    have hi : i < 8 := hi
    have hj : j < 8 := hj
    rcases (show i = 0 ∨ i = 1 ∨ i = 2 ∨ i = 3 ∨ i = 4 ∨ i = 5 ∨ i = 6 ∨ i = 7 by omega) with rfl | rfl | rfl | rfl | rfl | rfl | rfl | rfl
    · rcases (show j = 0 ∨ j = 1 ∨ j = 2 ∨ j = 3 ∨ j = 4 ∨ j = 5 ∨ j = 6 ∨ j = 7 by omega) with rfl | rfl | rfl | rfl | rfl | rfl | rfl | rfl
      · exact absurd rfl hij
      · exact Or.inl (hs _ f_65)
      · exact Or.inl (hs _ f_20)
      · exact Or.inl (hs _ f_14)
      · exact Or.inl (hs _ f_35)
      · exact Or.inl (hs _ f_27)
      · exact Or.inl (hs _ f_44)
      · exact Or.inl (hs _ f_54)
    · rcases (show j = 0 ∨ j = 1 ∨ j = 2 ∨ j = 3 ∨ j = 4 ∨ j = 5 ∨ j = 6 ∨ j = 7 by omega) with rfl | rfl | rfl | rfl | rfl | rfl | rfl | rfl
      · exact Or.inr (hs _ f_65)
      · exact absurd rfl hij
      · exact Or.inr (hs _ f_67)
      · exact Or.inr (hs _ f_66)
      · exact Or.inr (hs _ f_69)
      · exact Or.inr (hs _ f_68)
      · exact Or.inr (hs _ f_70)
      · exact Or.inr (hs _ f_71)
    · rcases (show j = 0 ∨ j = 1 ∨ j = 2 ∨ j = 3 ∨ j = 4 ∨ j = 5 ∨ j = 6 ∨ j = 7 by omega) with rfl | rfl | rfl | rfl | rfl | rfl | rfl | rfl
      · exact Or.inr (hs _ f_20)
      · exact Or.inl (hs _ f_67)
      · exact absurd rfl hij
      · exact Or.inr (hs _ f_21)
      · exact Or.inl (hs _ f_37)
      · exact Or.inl (hs _ f_29)
      · exact Or.inl (hs _ f_46)
      · exact Or.inl (hs _ f_56)
    · rcases (show j = 0 ∨ j = 1 ∨ j = 2 ∨ j = 3 ∨ j = 4 ∨ j = 5 ∨ j = 6 ∨ j = 7 by omega) with rfl | rfl | rfl | rfl | rfl | rfl | rfl | rfl
      · exact Or.inr (hs _ f_14)
      · exact Or.inl (hs _ f_66)
      · exact Or.inl (hs _ f_21)
      · exact absurd rfl hij
      · exact Or.inl (hs _ f_36)
      · exact Or.inl (hs _ f_28)
      · exact Or.inl (hs _ f_45)
      · exact Or.inl (hs _ f_55)
    · rcases (show j = 0 ∨ j = 1 ∨ j = 2 ∨ j = 3 ∨ j = 4 ∨ j = 5 ∨ j = 6 ∨ j = 7 by omega) with rfl | rfl | rfl | rfl | rfl | rfl | rfl | rfl
      · exact Or.inr (hs _ f_35)
      · exact Or.inl (hs _ f_69)
      · exact Or.inr (hs _ f_37)
      · exact Or.inr (hs _ f_36)
      · exact absurd rfl hij
      · exact Or.inr (hs _ f_38)
      · exact Or.inl (hs _ f_48)
      · exact Or.inl (hs _ f_58)
    · rcases (show j = 0 ∨ j = 1 ∨ j = 2 ∨ j = 3 ∨ j = 4 ∨ j = 5 ∨ j = 6 ∨ j = 7 by omega) with rfl | rfl | rfl | rfl | rfl | rfl | rfl | rfl
      · exact Or.inr (hs _ f_27)
      · exact Or.inl (hs _ f_68)
      · exact Or.inr (hs _ f_29)
      · exact Or.inr (hs _ f_28)
      · exact Or.inl (hs _ f_38)
      · exact absurd rfl hij
      · exact Or.inl (hs _ f_47)
      · exact Or.inl (hs _ f_57)
    · rcases (show j = 0 ∨ j = 1 ∨ j = 2 ∨ j = 3 ∨ j = 4 ∨ j = 5 ∨ j = 6 ∨ j = 7 by omega) with rfl | rfl | rfl | rfl | rfl | rfl | rfl | rfl
      · exact Or.inr (hs _ f_44)
      · exact Or.inl (hs _ f_70)
      · exact Or.inr (hs _ f_46)
      · exact Or.inr (hs _ f_45)
      · exact Or.inr (hs _ f_48)
      · exact Or.inr (hs _ f_47)
      · exact absurd rfl hij
      · exact Or.inl (hs _ f_59)
    · rcases (show j = 0 ∨ j = 1 ∨ j = 2 ∨ j = 3 ∨ j = 4 ∨ j = 5 ∨ j = 6 ∨ j = 7 by omega) with rfl | rfl | rfl | rfl | rfl | rfl | rfl | rfl
      · exact Or.inr (hs _ f_54)
      · exact Or.inl (hs _ f_71)
      · exact Or.inr (hs _ f_56)
      · exact Or.inr (hs _ f_55)
      · exact Or.inr (hs _ f_58)
      · exact Or.inr (hs _ f_57)
      · exact Or.inr (hs _ f_59)
      · exact absurd rfl hij
def kTm : Nat → Term := fun i => ([(Term.string "VersionRangesModel" (42 : Nat)), (Term.string "VersionRangesModel" (105 : Nat)), (Term.string "VersionRangesModel" (111 : Nat)), (Term.string "VersionRangesModel" (113 : Nat)), (Term.string "VersionRangesModel" (125 : Nat)), (Term.string "VersionRangesModel" (127 : Nat)), (Term.string "VersionRangesModel" (84 : Nat)), (Term.string "VersionRangesModel" (89 : Nat)), (Term.string "VersionRangesModel" (91 : Nat)), (Term.string "VersionRangesModel" (93 : Nat)), (Term.string "VersionRangesModel" (97 : Nat)), (Term.string "VersionRangesModel" (99 : Nat)), (Term.string "VersionRangesModel" (95 : Nat))] : List Term).getD i (Term.arg 0)
theorem k_sl {args : Array Value} {s : State} (hs : ∀ c ∈ flatC (Jvm.Cond.and given_1 narrow_1), c.before args s = true) {A : Nat → Prop} (hA : ∀ a : Nat, a < s.heap.size → ¬ A a) : ∃ adK adV : Nat → Nat, vk_S 13 kLen kByt adK adV A s s.heap ∧ ∀ i : Nat, i < 13 → (kTm i).eval args s none [] s = some (.ref (adK i)) := by
  refine vk_Sof (args := args) (tm := kTm) ?_ ?_ ?_ ?_ ?_ ?_ ?_ hA
  · intro i hi
    have h := kLen_le i hi
    omega
  · intro i hi
    rcases (show i = 0 ∨ i = 1 ∨ i = 2 ∨ i = 3 ∨ i = 4 ∨ i = 5 ∨ i = 6 ∨ i = 7 ∨ i = 8 ∨ i = 9 ∨ i = 10 ∨ i = 11 ∨ i = 12 by omega) with rfl | rfl | rfl | rfl | rfl | rfl | rfl | rfl | rfl | rfl | rfl | rfl | rfl
    · exact hs _ f_107
    · exact hs _ f_114
    · exact hs _ f_127
    · exact hs _ f_142
    · exact hs _ f_156
    · exact hs _ f_169
    · exact hs _ f_182
    · exact hs _ f_197
    · exact hs _ f_213
    · exact hs _ f_229
    · exact hs _ f_246
    · exact hs _ f_264
    · exact hs _ f_283
  · intro i hi
    rcases (show i = 0 ∨ i = 1 ∨ i = 2 ∨ i = 3 ∨ i = 4 ∨ i = 5 ∨ i = 6 ∨ i = 7 ∨ i = 8 ∨ i = 9 ∨ i = 10 ∨ i = 11 ∨ i = 12 by omega) with rfl | rfl | rfl | rfl | rfl | rfl | rfl | rfl | rfl | rfl | rfl | rfl | rfl
    · exact hs _ f_108
    · exact hs _ f_115
    · exact hs _ f_128
    · exact hs _ f_143
    · exact hs _ f_157
    · exact hs _ f_170
    · exact hs _ f_183
    · exact hs _ f_198
    · exact hs _ f_214
    · exact hs _ f_230
    · exact hs _ f_247
    · exact hs _ f_265
    · exact hs _ f_284
  · intro i hi
    rcases (show i = 0 ∨ i = 1 ∨ i = 2 ∨ i = 3 ∨ i = 4 ∨ i = 5 ∨ i = 6 ∨ i = 7 ∨ i = 8 ∨ i = 9 ∨ i = 10 ∨ i = 11 ∨ i = 12 by omega) with rfl | rfl | rfl | rfl | rfl | rfl | rfl | rfl | rfl | rfl | rfl | rfl | rfl
    · exact hs _ f_109
    · exact hs _ f_116
    · exact hs _ f_129
    · exact hs _ f_144
    · exact hs _ f_158
    · exact hs _ f_171
    · exact hs _ f_184
    · exact hs _ f_199
    · exact hs _ f_215
    · exact hs _ f_231
    · exact hs _ f_248
    · exact hs _ f_266
    · exact hs _ f_285
  · intro i hi
    rcases (show i = 0 ∨ i = 1 ∨ i = 2 ∨ i = 3 ∨ i = 4 ∨ i = 5 ∨ i = 6 ∨ i = 7 ∨ i = 8 ∨ i = 9 ∨ i = 10 ∨ i = 11 ∨ i = 12 by omega) with rfl | rfl | rfl | rfl | rfl | rfl | rfl | rfl | rfl | rfl | rfl | rfl | rfl
    · exact hs _ f_110
    · exact hs _ f_117
    · exact hs _ f_130
    · exact hs _ f_145
    · exact hs _ f_159
    · exact hs _ f_172
    · exact hs _ f_185
    · exact hs _ f_200
    · exact hs _ f_216
    · exact hs _ f_232
    · exact hs _ f_249
    · exact hs _ f_267
    · exact hs _ f_286
  · intro i hi j hj
    rcases (show i = 0 ∨ i = 1 ∨ i = 2 ∨ i = 3 ∨ i = 4 ∨ i = 5 ∨ i = 6 ∨ i = 7 ∨ i = 8 ∨ i = 9 ∨ i = 10 ∨ i = 11 ∨ i = 12 by omega) with rfl | rfl | rfl | rfl | rfl | rfl | rfl | rfl | rfl | rfl | rfl | rfl | rfl
    · exact absurd hj (Nat.not_lt_zero _)
    · have hj : j < 5 := hj
      rcases (show j = 0 ∨ j = 1 ∨ j = 2 ∨ j = 3 ∨ j = 4 by omega) with rfl | rfl | rfl | rfl | rfl
      · exact hs _ f_118
      · exact hs _ f_119
      · exact hs _ f_120
      · exact hs _ f_121
      · exact hs _ f_122
    · have hj : j < 6 := hj
      rcases (show j = 0 ∨ j = 1 ∨ j = 2 ∨ j = 3 ∨ j = 4 ∨ j = 5 by omega) with rfl | rfl | rfl | rfl | rfl | rfl
      · exact hs _ f_131
      · exact hs _ f_132
      · exact hs _ f_133
      · exact hs _ f_134
      · exact hs _ f_135
      · exact hs _ f_136
    · have hj : j < 4 := hj
      rcases (show j = 0 ∨ j = 1 ∨ j = 2 ∨ j = 3 by omega) with rfl | rfl | rfl | rfl
      · exact hs _ f_146
      · exact hs _ f_147
      · exact hs _ f_148
      · exact hs _ f_149
    · have hj : j < 2 := hj
      rcases (show j = 0 ∨ j = 1 by omega) with rfl | rfl
      · exact hs _ f_160
      · exact hs _ f_161
    · have hj : j < 1 := hj
      rcases (show j = 0 by omega) with rfl
      · exact hs _ f_173
    · have hj : j < 2 := hj
      rcases (show j = 0 ∨ j = 1 by omega) with rfl | rfl
      · exact hs _ f_186
      · exact hs _ f_187
    · have hj : j < 2 := hj
      rcases (show j = 0 ∨ j = 1 by omega) with rfl | rfl
      · exact hs _ f_201
      · exact hs _ f_202
    · have hj : j < 1 := hj
      rcases (show j = 0 by omega) with rfl
      · exact hs _ f_217
    · have hj : j < 1 := hj
      rcases (show j = 0 by omega) with rfl
      · exact hs _ f_233
    · have hj : j < 1 := hj
      rcases (show j = 0 by omega) with rfl
      · exact hs _ f_250
    · have hj : j < 1 := hj
      rcases (show j = 0 by omega) with rfl
      · exact hs _ f_268
    · have hj : j < 1 := hj
      rcases (show j = 0 by omega) with rfl
      · exact hs _ f_287
  · intro i j hi hj hij
    rcases (show i = 0 ∨ i = 1 ∨ i = 2 ∨ i = 3 ∨ i = 4 ∨ i = 5 ∨ i = 6 ∨ i = 7 ∨ i = 8 ∨ i = 9 ∨ i = 10 ∨ i = 11 ∨ i = 12 by omega) with rfl | rfl | rfl | rfl | rfl | rfl | rfl | rfl | rfl | rfl | rfl | rfl | rfl
    · rcases (show j = 0 ∨ j = 1 ∨ j = 2 ∨ j = 3 ∨ j = 4 ∨ j = 5 ∨ j = 6 ∨ j = 7 ∨ j = 8 ∨ j = 9 ∨ j = 10 ∨ j = 11 ∨ j = 12 by omega) with rfl | rfl | rfl | rfl | rfl | rfl | rfl | rfl | rfl | rfl | rfl | rfl | rfl
      · exact absurd rfl hij
      · exact Or.inl (hs _ f_126)
      · exact Or.inl (hs _ f_140)
      · exact Or.inl (hs _ f_153)
      · exact Or.inl (hs _ f_165)
      · exact Or.inl (hs _ f_177)
      · exact Or.inl (hs _ f_191)
      · exact Or.inl (hs _ f_206)
      · exact Or.inl (hs _ f_221)
      · exact Or.inl (hs _ f_237)
      · exact Or.inl (hs _ f_254)
      · exact Or.inl (hs _ f_272)
      · exact Or.inl (hs _ f_291)
    · rcases (show j = 0 ∨ j = 1 ∨ j = 2 ∨ j = 3 ∨ j = 4 ∨ j = 5 ∨ j = 6 ∨ j = 7 ∨ j = 8 ∨ j = 9 ∨ j = 10 ∨ j = 11 ∨ j = 12 by omega) with rfl | rfl | rfl | rfl | rfl | rfl | rfl | rfl | rfl | rfl | rfl | rfl | rfl
      · exact Or.inr (hs _ f_126)
      · exact absurd rfl hij
      · exact Or.inl (hs _ f_141)
      · exact Or.inl (hs _ f_154)
      · exact Or.inl (hs _ f_166)
      · exact Or.inl (hs _ f_178)
      · exact Or.inl (hs _ f_192)
      · exact Or.inl (hs _ f_207)
      · exact Or.inl (hs _ f_222)
      · exact Or.inl (hs _ f_238)
      · exact Or.inl (hs _ f_255)
      · exact Or.inl (hs _ f_273)
      · exact Or.inl (hs _ f_292)
    · rcases (show j = 0 ∨ j = 1 ∨ j = 2 ∨ j = 3 ∨ j = 4 ∨ j = 5 ∨ j = 6 ∨ j = 7 ∨ j = 8 ∨ j = 9 ∨ j = 10 ∨ j = 11 ∨ j = 12 by omega) with rfl | rfl | rfl | rfl | rfl | rfl | rfl | rfl | rfl | rfl | rfl | rfl | rfl
      · exact Or.inr (hs _ f_140)
      · exact Or.inr (hs _ f_141)
      · exact absurd rfl hij
      · exact Or.inl (hs _ f_155)
      · exact Or.inl (hs _ f_167)
      · exact Or.inl (hs _ f_179)
      · exact Or.inl (hs _ f_193)
      · exact Or.inl (hs _ f_208)
      · exact Or.inl (hs _ f_223)
      · exact Or.inl (hs _ f_239)
      · exact Or.inl (hs _ f_256)
      · exact Or.inl (hs _ f_274)
      · exact Or.inl (hs _ f_293)
    · rcases (show j = 0 ∨ j = 1 ∨ j = 2 ∨ j = 3 ∨ j = 4 ∨ j = 5 ∨ j = 6 ∨ j = 7 ∨ j = 8 ∨ j = 9 ∨ j = 10 ∨ j = 11 ∨ j = 12 by omega) with rfl | rfl | rfl | rfl | rfl | rfl | rfl | rfl | rfl | rfl | rfl | rfl | rfl
      · exact Or.inr (hs _ f_153)
      · exact Or.inr (hs _ f_154)
      · exact Or.inr (hs _ f_155)
      · exact absurd rfl hij
      · exact Or.inl (hs _ f_168)
      · exact Or.inl (hs _ f_180)
      · exact Or.inl (hs _ f_194)
      · exact Or.inl (hs _ f_209)
      · exact Or.inl (hs _ f_224)
      · exact Or.inl (hs _ f_240)
      · exact Or.inl (hs _ f_257)
      · exact Or.inl (hs _ f_275)
      · exact Or.inl (hs _ f_294)
    · rcases (show j = 0 ∨ j = 1 ∨ j = 2 ∨ j = 3 ∨ j = 4 ∨ j = 5 ∨ j = 6 ∨ j = 7 ∨ j = 8 ∨ j = 9 ∨ j = 10 ∨ j = 11 ∨ j = 12 by omega) with rfl | rfl | rfl | rfl | rfl | rfl | rfl | rfl | rfl | rfl | rfl | rfl | rfl
      · exact Or.inr (hs _ f_165)
      · exact Or.inr (hs _ f_166)
      · exact Or.inr (hs _ f_167)
      · exact Or.inr (hs _ f_168)
      · exact absurd rfl hij
      · exact Or.inl (hs _ f_181)
      · exact Or.inl (hs _ f_195)
      · exact Or.inl (hs _ f_210)
      · exact Or.inl (hs _ f_225)
      · exact Or.inl (hs _ f_241)
      · exact Or.inl (hs _ f_258)
      · exact Or.inl (hs _ f_276)
      · exact Or.inl (hs _ f_295)
    · rcases (show j = 0 ∨ j = 1 ∨ j = 2 ∨ j = 3 ∨ j = 4 ∨ j = 5 ∨ j = 6 ∨ j = 7 ∨ j = 8 ∨ j = 9 ∨ j = 10 ∨ j = 11 ∨ j = 12 by omega) with rfl | rfl | rfl | rfl | rfl | rfl | rfl | rfl | rfl | rfl | rfl | rfl | rfl
      · exact Or.inr (hs _ f_177)
      · exact Or.inr (hs _ f_178)
      · exact Or.inr (hs _ f_179)
      · exact Or.inr (hs _ f_180)
      · exact Or.inr (hs _ f_181)
      · exact absurd rfl hij
      · exact Or.inl (hs _ f_196)
      · exact Or.inl (hs _ f_211)
      · exact Or.inl (hs _ f_226)
      · exact Or.inl (hs _ f_242)
      · exact Or.inl (hs _ f_259)
      · exact Or.inl (hs _ f_277)
      · exact Or.inl (hs _ f_296)
    · rcases (show j = 0 ∨ j = 1 ∨ j = 2 ∨ j = 3 ∨ j = 4 ∨ j = 5 ∨ j = 6 ∨ j = 7 ∨ j = 8 ∨ j = 9 ∨ j = 10 ∨ j = 11 ∨ j = 12 by omega) with rfl | rfl | rfl | rfl | rfl | rfl | rfl | rfl | rfl | rfl | rfl | rfl | rfl
      · exact Or.inr (hs _ f_191)
      · exact Or.inr (hs _ f_192)
      · exact Or.inr (hs _ f_193)
      · exact Or.inr (hs _ f_194)
      · exact Or.inr (hs _ f_195)
      · exact Or.inr (hs _ f_196)
      · exact absurd rfl hij
      · exact Or.inl (hs _ f_212)
      · exact Or.inl (hs _ f_227)
      · exact Or.inl (hs _ f_243)
      · exact Or.inl (hs _ f_260)
      · exact Or.inl (hs _ f_278)
      · exact Or.inl (hs _ f_297)
    · rcases (show j = 0 ∨ j = 1 ∨ j = 2 ∨ j = 3 ∨ j = 4 ∨ j = 5 ∨ j = 6 ∨ j = 7 ∨ j = 8 ∨ j = 9 ∨ j = 10 ∨ j = 11 ∨ j = 12 by omega) with rfl | rfl | rfl | rfl | rfl | rfl | rfl | rfl | rfl | rfl | rfl | rfl | rfl
      · exact Or.inr (hs _ f_206)
      · exact Or.inr (hs _ f_207)
      · exact Or.inr (hs _ f_208)
      · exact Or.inr (hs _ f_209)
      · exact Or.inr (hs _ f_210)
      · exact Or.inr (hs _ f_211)
      · exact Or.inr (hs _ f_212)
      · exact absurd rfl hij
      · exact Or.inl (hs _ f_228)
      · exact Or.inl (hs _ f_244)
      · exact Or.inl (hs _ f_261)
      · exact Or.inl (hs _ f_279)
      · exact Or.inl (hs _ f_298)
    · rcases (show j = 0 ∨ j = 1 ∨ j = 2 ∨ j = 3 ∨ j = 4 ∨ j = 5 ∨ j = 6 ∨ j = 7 ∨ j = 8 ∨ j = 9 ∨ j = 10 ∨ j = 11 ∨ j = 12 by omega) with rfl | rfl | rfl | rfl | rfl | rfl | rfl | rfl | rfl | rfl | rfl | rfl | rfl
      · exact Or.inr (hs _ f_221)
      · exact Or.inr (hs _ f_222)
      · exact Or.inr (hs _ f_223)
      · exact Or.inr (hs _ f_224)
      · exact Or.inr (hs _ f_225)
      · exact Or.inr (hs _ f_226)
      · exact Or.inr (hs _ f_227)
      · exact Or.inr (hs _ f_228)
      · exact absurd rfl hij
      · exact Or.inl (hs _ f_245)
      · exact Or.inl (hs _ f_262)
      · exact Or.inl (hs _ f_280)
      · exact Or.inl (hs _ f_299)
    · rcases (show j = 0 ∨ j = 1 ∨ j = 2 ∨ j = 3 ∨ j = 4 ∨ j = 5 ∨ j = 6 ∨ j = 7 ∨ j = 8 ∨ j = 9 ∨ j = 10 ∨ j = 11 ∨ j = 12 by omega) with rfl | rfl | rfl | rfl | rfl | rfl | rfl | rfl | rfl | rfl | rfl | rfl | rfl
      · exact Or.inr (hs _ f_237)
      · exact Or.inr (hs _ f_238)
      · exact Or.inr (hs _ f_239)
      · exact Or.inr (hs _ f_240)
      · exact Or.inr (hs _ f_241)
      · exact Or.inr (hs _ f_242)
      · exact Or.inr (hs _ f_243)
      · exact Or.inr (hs _ f_244)
      · exact Or.inr (hs _ f_245)
      · exact absurd rfl hij
      · exact Or.inl (hs _ f_263)
      · exact Or.inl (hs _ f_281)
      · exact Or.inl (hs _ f_300)
    · rcases (show j = 0 ∨ j = 1 ∨ j = 2 ∨ j = 3 ∨ j = 4 ∨ j = 5 ∨ j = 6 ∨ j = 7 ∨ j = 8 ∨ j = 9 ∨ j = 10 ∨ j = 11 ∨ j = 12 by omega) with rfl | rfl | rfl | rfl | rfl | rfl | rfl | rfl | rfl | rfl | rfl | rfl | rfl
      · exact Or.inr (hs _ f_254)
      · exact Or.inr (hs _ f_255)
      · exact Or.inr (hs _ f_256)
      · exact Or.inr (hs _ f_257)
      · exact Or.inr (hs _ f_258)
      · exact Or.inr (hs _ f_259)
      · exact Or.inr (hs _ f_260)
      · exact Or.inr (hs _ f_261)
      · exact Or.inr (hs _ f_262)
      · exact Or.inr (hs _ f_263)
      · exact absurd rfl hij
      · exact Or.inl (hs _ f_282)
      · exact Or.inl (hs _ f_301)
    · rcases (show j = 0 ∨ j = 1 ∨ j = 2 ∨ j = 3 ∨ j = 4 ∨ j = 5 ∨ j = 6 ∨ j = 7 ∨ j = 8 ∨ j = 9 ∨ j = 10 ∨ j = 11 ∨ j = 12 by omega) with rfl | rfl | rfl | rfl | rfl | rfl | rfl | rfl | rfl | rfl | rfl | rfl | rfl
      · exact Or.inr (hs _ f_272)
      · exact Or.inr (hs _ f_273)
      · exact Or.inr (hs _ f_274)
      · exact Or.inr (hs _ f_275)
      · exact Or.inr (hs _ f_276)
      · exact Or.inr (hs _ f_277)
      · exact Or.inr (hs _ f_278)
      · exact Or.inr (hs _ f_279)
      · exact Or.inr (hs _ f_280)
      · exact Or.inr (hs _ f_281)
      · exact Or.inr (hs _ f_282)
      · exact absurd rfl hij
      · exact Or.inl (hs _ f_302)
    · rcases (show j = 0 ∨ j = 1 ∨ j = 2 ∨ j = 3 ∨ j = 4 ∨ j = 5 ∨ j = 6 ∨ j = 7 ∨ j = 8 ∨ j = 9 ∨ j = 10 ∨ j = 11 ∨ j = 12 by omega) with rfl | rfl | rfl | rfl | rfl | rfl | rfl | rfl | rfl | rfl | rfl | rfl | rfl
      · exact Or.inr (hs _ f_291)
      · exact Or.inr (hs _ f_292)
      · exact Or.inr (hs _ f_293)
      · exact Or.inr (hs _ f_294)
      · exact Or.inr (hs _ f_295)
      · exact Or.inr (hs _ f_296)
      · exact Or.inr (hs _ f_297)
      · exact Or.inr (hs _ f_298)
      · exact Or.inr (hs _ f_299)
      · exact Or.inr (hs _ f_300)
      · exact Or.inr (hs _ f_301)
      · exact Or.inr (hs _ f_302)
      · exact absurd rfl hij
theorem k_rf {args : Array Value} {s : State} (hs : ∀ c ∈ flatC (Jvm.Cond.and given_1 narrow_1), c.before args s = true) (hts : ∀ w ∈ lw_tbl, w.before args s = true) {adK : Nat → Nat} (h : ∀ i : Nat, i < 13 → (kTm i).eval args s none [] s = some (.ref (adK i))) : ∀ q ∈ kLit, vk_R q.1 q.2.1 q.2.2.1 (adK q.2.2.2) s := by
  intro q hq
  have hq : q = ("java/lang/String", 7, "", 0) ∨ q = ("java/lang/StringLatin1", 151, "", 0) ∨ q = ("java/lang/StringUTF16", 295, "", 0) ∨ q = ("VersionRangesModel", 42, "", 0) ∨ q = ("VersionRangesModel", 105, "needs", 1) ∨ q = ("VersionRangesModel", 111, "breaks", 2) ∨ q = ("VersionRangesModel", 113, "owns", 3) ∨ q = ("VersionRangesModel", 125, "||", 4) ∨ q = ("VersionRangesModel", 127, "*", 5) ∨ q = ("VersionRangesModel", 84, "<=", 6) ∨ q = ("VersionRangesModel", 89, ">=", 7) ∨ q = ("VersionRangesModel", 91, "<", 8) ∨ q = ("VersionRangesModel", 93, ">", 9) ∨ q = ("VersionRangesModel", 97, "^", 10) ∨ q = ("VersionRangesModel", 99, "~", 11) ∨ q = ("VersionRangesModel", 95, "=", 12) := by simpa [kLit] using hq
  rcases hq with rfl | rfl | rfl | rfl | rfl | rfl | rfl | rfl | rfl | rfl | rfl | rfl | rfl | rfl | rfl | rfl
  · exact vk_R.of (A := args) (hts _ (List.mem_append_right _ s_353)) (Cond.eq_refs (hs _ f_111) (h 0 (by decide)) rfl)
  · exact vk_R.of (A := args) (hts _ (List.mem_append_right _ s_479)) (Cond.eq_refs (hs _ f_112) (h 0 (by decide)) rfl)
  · exact vk_R.of (A := args) (hts _ (List.mem_append_right _ s_507)) (Cond.eq_refs (hs _ f_113) (h 0 (by decide)) rfl)
  · exact vk_R.of (A := args) (hts _ (List.mem_append_right _ s_586)) (h 0 (by decide))
  · exact vk_R.of (A := args) (hts _ (List.mem_append_right _ s_587)) (h 1 (by decide))
  · exact vk_R.of (A := args) (hts _ (List.mem_append_right _ s_596)) (h 2 (by decide))
  · exact vk_R.of (A := args) (hts _ (List.mem_append_right _ s_597)) (h 3 (by decide))
  · exact vk_R.of (A := args) (hts _ (List.mem_append_right _ s_598)) (h 4 (by decide))
  · exact vk_R.of (A := args) (hts _ (List.mem_append_right _ s_599)) (h 5 (by decide))
  · exact vk_R.of (A := args) (hts _ (List.mem_append_right _ s_603)) (h 6 (by decide))
  · exact vk_R.of (A := args) (hts _ (List.mem_append_right _ s_646)) (h 7 (by decide))
  · exact vk_R.of (A := args) (hts _ (List.mem_append_right _ s_647)) (h 8 (by decide))
  · exact vk_R.of (A := args) (hts _ (List.mem_append_right _ s_648)) (h 9 (by decide))
  · exact vk_R.of (A := args) (hts _ (List.mem_append_right _ s_649)) (h 10 (by decide))
  · exact vk_R.of (A := args) (hts _ (List.mem_append_right _ s_650)) (h 11 (by decide))
  · exact vk_R.of (A := args) (hts _ (List.mem_append_right _ s_654)) (h 12 (by decide))
theorem k_zs {args : Array Value} {s : State} (hs : ∀ c ∈ flatC (Jvm.Cond.and given_1 narrow_1), c.before args s = true) (hts : ∀ w ∈ lw_tbl, w.before args s = true) {A : Nat → Prop} (hA : ∀ a : Nat, a < s.heap.size → ¬ A a) : (∀ q ∈ kZ, va_Z q.1 q.2.1 q.2.2.1 (.int q.2.2.2) A s s.heap) ∧ ∀ q ∈ kZq, va_Zq q.1 q.2.1 q.2.2 A s s.heap := by
  constructor
  · intro q hq
    have hq : q = ("java/lang/String", "COMPACT_STRINGS", "Z", 1) ∨ q = ("java/lang/StringUTF16", "$assertionsDisabled", "Z", 1) ∨ q = ("java/lang/StringUTF16", "HI_BYTE_SHIFT", "I", 0) ∨ q = ("java/lang/StringUTF16", "LO_BYTE_SHIFT", "I", 8) ∨ q = ("jdk/internal/util/ArraysSupport", "BIG_ENDIAN", "Z", 0) ∨ q = ("jdk/internal/util/ArraysSupport", "LOG2_ARRAY_BYTE_INDEX_SCALE", "I", 0) ∨ q = ("jdk/internal/util/ArraysSupport", "LOG2_ARRAY_INT_INDEX_SCALE", "I", 2) ∨ q = ("jdk/internal/util/ArraysSupport", "LOG2_ARRAY_LONG_INDEX_SCALE", "I", 3) ∨ q = ("jdk/internal/util/ArraysSupport", "LOG2_BYTE_BIT_SIZE", "I", 3) := by simpa [kZ] using hq
    rcases hq with rfl | rfl | rfl | rfl | rfl | rfl | rfl | rfl | rfl
    · exact va_Zof (args := args) (hts _ (List.mem_append_right _ a_355)) (hts _ (Wd_in _ w_9)) (va_eqt (hs _ f_73)) hA
    · exact va_Zof (args := args) (hts _ (List.mem_append_right _ a_376)) (hts _ (Wd_in _ w_11)) (va_eqt (hs _ f_74)) hA
    · exact va_Zof (args := args) (hts _ (List.mem_append_right _ a_381)) (hts _ (Wd_in _ w_11)) (va_eqt (hs _ f_75)) hA
    · exact va_Zof (args := args) (hts _ (List.mem_append_right _ a_383)) (hts _ (Wd_in _ w_11)) (va_eqt (hs _ f_76)) hA
    · exact va_Zof (args := args) (hts _ (List.mem_append_right _ a_625)) (hts _ (Wd_in _ w_17)) (va_eqt (hs _ f_80)) hA
    · exact va_Zof (args := args) (hts _ (List.mem_append_right _ a_616)) (hts _ (Wd_in _ w_17)) (va_eqt (hs _ f_77)) hA
    · exact va_Zof (args := args) (hts _ (List.mem_append_right _ a_642)) (hts _ (Wd_in _ w_17)) (va_eqt (hs _ f_82)) hA
    · exact va_Zof (args := args) (hts _ (List.mem_append_right _ a_621)) (hts _ (Wd_in _ w_17)) (va_eqt (hs _ f_78)) hA
    · exact va_Zof (args := args) (hts _ (List.mem_append_right _ a_634)) (hts _ (Wd_in _ w_17)) (va_eqt (hs _ f_81)) hA
  · intro q hq
    have hq : q = ("jdk/internal/util/ArraysSupport", "U", "Ljdk/internal/misc/Unsafe;") ∨ q = ("jdk/internal/util/Preconditions", "SIOOBE_FORMATTER", "Ljava/util/function/BiFunction;") := by simpa [kZq] using hq
    rcases hq with rfl | rfl
    · exact va_Zqof (args := args) (hts _ (List.mem_append_right _ a_623)) (hts _ (Wd_in _ w_17)) (hs _ f_79) hA
    · exact va_Zqof (args := args) (hts _ (List.mem_append_right _ a_345)) (hts _ (Wd_in _ w_10)) (hs _ f_72) hA
theorem k_cl {args : Array Value} {s : State} (hW : ∀ w ∈ Wd, w.before args s = true) : ∃ (dC : Nat → ClassId) (dI : Nat → Nat → Nat), ∀ (c : Nat) (q : vw_C), kcl[c]? = some q → u_Kn s q.1 q.2.1 q.2.2 (dC c) (dI c) := by
  obtain ⟨c0, i0, h0⟩ := u_known hW inRT (hW _ w_75)
  obtain ⟨c1, i1, h1⟩ := u_known hW inTP (hW _ w_29)
  obtain ⟨c2, i2, h2⟩ := u_known hW inVE (hW _ w_60)
  obtain ⟨c3, i3, h3⟩ := u_known hW inVR (hW _ w_21)
  obtain ⟨c4, i4, h4⟩ := u_known hW inMD (hW _ w_282)
  obtain ⟨c5, i5, h5⟩ := u_known hW inMV (hW _ w_412)
  obtain ⟨c6, i6, h6⟩ := u_known hW inMR (hW _ w_556)
  obtain ⟨c7, i7, h7⟩ := u_known hW inST (hW _ w_334)
  refine ⟨fun c => ([c0, c1, c2, c3, c4, c5, c6, c7] : List ClassId).getD c 0, fun c => ([i0, i1, i2, i3, i4, i5, i6, i7] : List (Nat → Nat)).getD c (fun _ => 0), fun c q hq => ?_⟩
  have hc : c < 8 := by
    rcases Nat.lt_or_ge c 8 with z | z
    · exact z
    · rw [List.getElem?_eq_none (by simpa [kcl] using z)] at hq
      cases hq
  rcases (show c = 0 ∨ c = 1 ∨ c = 2 ∨ c = 3 ∨ c = 4 ∨ c = 5 ∨ c = 6 ∨ c = 7 by omega) with rfl | rfl | rfl | rfl | rfl | rfl | rfl | rfl
  · cases hq
    exact h0
  · cases hq
    exact h1
  · cases hq
    exact h2
  · cases hq
    exact h3
  · cases hq
    exact h4
  · cases hq
    exact h5
  · cases hq
    exact h6
  · cases hq
    exact h7
theorem k_arrP {args : Array Value} {s : State} {ty : FieldType} (h : (Cond.arrayClass ty).before args s = true) : ∃ cA, ArrOfT s cA ty ∧ s.vm.findClass ("[" ++ ty.toString) = some cA := by
  obtain ⟨c, k, comp, h1, h2, h3⟩ := Cond.arrayClass_spec h
  exact ⟨c, fun n z => ⟨fun k h => (by cases h), k, h2, comp, h3⟩, h1⟩
theorem k_arrO {args : Array Value} {s : State} {C : String} (h : (Cond.arrayOver (.object C)).before args s = true) : ∃ cA, ArrOfT s cA (.object C) ∧ va_RA s cA (.object C) := by
  obtain ⟨comp, c, k, h1, -, h2, h3, h4⟩ := Cond.arrayOver_spec h
  exact ⟨c, fun n z => ⟨fun k h => (by cases h), k, h2, comp, h3⟩, k, comp, h2, h3, h1, h4⟩
theorem k_ar {args : Array Value} {s : State} (hW : ∀ w ∈ Wd, w.before args s = true) (hts : ∀ w ∈ lw_tbl, w.before args s = true) : ∃ cA : Nat → ClassId, ArrOfT s (cA 0) .byte ∧ va_RA s (cA 0) .byte ∧ ArrOfT s (cA 1) .int ∧ va_RA s (cA 1) .int ∧ ArrOfT s (cA 2) .long ∧ va_RA s (cA 2) .long ∧ ArrOfT s (cA 3) .char ∧ va_RA s (cA 3) .char ∧ ArrOfT s (cA 4) (.object "VersionRanges$Version") ∧ va_RA s (cA 4) (.object "VersionRanges$Version") ∧ ArrOfT s (cA 5) (.object "java/lang/String") ∧ va_RA s (cA 5) (.object "java/lang/String") ∧ ArrOfT s (cA 6) (.object "VersionRangesModel$Version") ∧ va_RA s (cA 6) (.object "VersionRangesModel$Version") := by
  obtain ⟨c0, a0, b0⟩ := k_arrP (hW _ w_56)
  obtain ⟨c1, a1, b1⟩ := k_arrP (hW _ w_57)
  obtain ⟨c2, a2, b2⟩ := k_arrP (hW _ w_73)
  obtain ⟨c3, a3, b3⟩ := k_arrP (hW _ w_313)
  obtain ⟨c4, a4, b4⟩ := k_arrO (hts _ (List.mem_append_right _ a_59))
  obtain ⟨c5, a5, b5⟩ := k_arrO (hts _ (List.mem_append_right _ a_288))
  obtain ⟨c6, a6, b6⟩ := k_arrO (hts _ (List.mem_append_right _ a_290))
  exact ⟨fun i => ([c0, c1, c2, c3, c4, c5, c6] : List ClassId).getD i 0, a0, b0, a1, b1, a2, b2, a3, b3, a4, b4, a5, b5, a6, b6⟩
theorem k_start {args : Array Value} {s : State} (hW : ∀ w ∈ Wd, w.before args s = true) (hs : ∀ c ∈ flatC (Jvm.Cond.and given_1 narrow_1), c.before args s = true) (hts : ∀ w ∈ lw_tbl, w.before args s = true) : ∃ g : kG, g.1 = s.heap.size ∧ kS g (fun _ => none) s s.heap [] := by
  have hA : ∀ a : Nat, a < s.heap.size → ¬ s.heap.size ≤ a := fun a h => Nat.not_le.mpr h
  obtain ⟨ad, hen⟩ := k_en (A := fun q => s.heap.size ≤ q) hs hts hA
  obtain ⟨adK, adV, hsl, hev⟩ := k_sl (A := fun q => s.heap.size ≤ q) hs hA
  have hrf := k_rf hs hts hev
  obtain ⟨hz, hzq⟩ := k_zs (A := fun q => s.heap.size ≤ q) hs hts hA
  obtain ⟨dC, dI, hcl⟩ := k_cl hW
  obtain ⟨cA, a0, b0, a1, b1, a2, b2, a3, b3, a4, b4, a5, b5, a6, b6⟩ := k_ar hW hts
  refine ⟨(s.heap.size, (dC, dI), cA, ad, adK, adV), rfl, Nat.le_refl _, ⟨⟨hcl, ?_⟩, ?_, hen, hsl, hrf, hz, hzq, ?_⟩, ⟨[], fun k x h => (by simp at h), ⟨fun i j x y h => (by simp at h), fun k x h => (by simp at h)⟩, fun a e => ⟨fun h => (by cases h), fun h => (by obtain ⟨k, hk⟩ := h; simp at hk)⟩⟩, va_S.rf⟩
  · intro k q hk
    have hk7 : k < 7 := by
      rcases Nat.lt_or_ge k 7 with z | z
      · exact z
      · rw [List.getElem?_eq_none (by simpa [ktys] using z)] at hk
        cases hk
    rcases (show k = 0 ∨ k = 1 ∨ k = 2 ∨ k = 3 ∨ k = 4 ∨ k = 5 ∨ k = 6 by omega) with rfl | rfl | rfl | rfl | rfl | rfl | rfl
    · cases hk; exact ⟨a0, b0⟩
    · cases hk; exact ⟨a1, b1⟩
    · cases hk; exact ⟨a2, b2⟩
    · cases hk; exact ⟨a3, b3⟩
    · cases hk; exact ⟨a4, b4⟩
    · cases hk; exact ⟨a5, b5⟩
    · cases hk; exact ⟨a6, b6⟩
  · intro w hw
    obtain ⟨h1, h2⟩ := List.mem_filter.mp hw
    have h3 := hts w (List.mem_append_right _ h1)
    cases w <;> first | (cases h2; done) | exact va_Nw.of rfl h3
  · intro C hC
    have hC : C = "VersionRanges$Version" ∨ C = "java/lang/String" ∨ C = "VersionRangesModel$Version" := by simpa [kAO] using hC
    rcases hC with rfl | rfl | rfl
    · exact va_AO.of (hts _ (List.mem_append_right _ a_59))
    · exact va_AO.of (hts _ (List.mem_append_right _ a_288))
    · exact va_AO.of (hts _ (List.mem_append_right _ a_290))
