theorem qAnd {a b : Cond} {args : Array Value} {s : State} (h : (Cond.and a b).before args s = true) : a.before args s = true ∧ b.before args s = true := by
  rw [Cond.before_and, Bool.and_eq_true] at h
  exact h
def pTm (i : Nat) : Term := ([Term.string RX5 48, Term.string RX5 50, Term.string RX5 52, Term.string RX5 58, Term.string RX5 60, Term.string RX5 62, Term.string RX5 64, Term.string RX5 66, Term.string RX5 68, Term.string RX5 70, Term.string RX5 72, Term.string RX7 103, Term.string RX7 105, Term.string RX7 97] : List Term).getD i (.int 0)
set_option maxHeartbeats 4000000 in
set_option maxRecDepth 100000 in
theorem pEnv_start {args : Array Value} {s : State} {A : Nat → Prop} (hts : ∀ w ∈ lw_tbl, w.before args s = true) (hgv : (Jvm.Cond.and given_1 narrow_1).before args s = true) (hA : ∀ a : Nat, a < s.heap.size → ¬ A a) : ∃ E : pEt, pEnv E A s s.heap := by
  obtain ⟨xG, xN⟩ := qAnd hgv
  obtain ⟨x1, x2⟩ := qAnd xN
  obtain ⟨x3, x4⟩ := qAnd x1
  obtain ⟨x5, x6⟩ := qAnd x3
  obtain ⟨x7, x8⟩ := qAnd x5
  obtain ⟨x9, x10⟩ := qAnd x7
  obtain ⟨x11, x12⟩ := qAnd x9
  obtain ⟨x13, x14⟩ := qAnd x11
  obtain ⟨x15, x16⟩ := qAnd x14
  obtain ⟨x17, x18⟩ := qAnd x12
  obtain ⟨x19, x20⟩ := qAnd x18
  obtain ⟨x21, x22⟩ := qAnd x10
  obtain ⟨x23, x24⟩ := qAnd x21
  obtain ⟨x25, x26⟩ := qAnd x24
  obtain ⟨x27, x28⟩ := qAnd x22
  obtain ⟨x29, x30⟩ := qAnd x28
  obtain ⟨x31, x32⟩ := qAnd x8
  obtain ⟨x33, x34⟩ := qAnd x31
  obtain ⟨x35, x36⟩ := qAnd x33
  obtain ⟨x37, x38⟩ := qAnd x36
  obtain ⟨x39, x40⟩ := qAnd x34
  obtain ⟨x41, x42⟩ := qAnd x40
  obtain ⟨x43, x44⟩ := qAnd x32
  obtain ⟨x45, x46⟩ := qAnd x43
  obtain ⟨x47, x48⟩ := qAnd x46
  obtain ⟨x49, x50⟩ := qAnd x44
  obtain ⟨x51, x52⟩ := qAnd x50
  obtain ⟨x53, x54⟩ := qAnd x6
  obtain ⟨x55, x56⟩ := qAnd x53
  obtain ⟨x57, x58⟩ := qAnd x55
  obtain ⟨x59, x60⟩ := qAnd x57
  obtain ⟨x61, x62⟩ := qAnd x60
  obtain ⟨x63, x64⟩ := qAnd x58
  obtain ⟨x65, x66⟩ := qAnd x64
  obtain ⟨x67, x68⟩ := qAnd x56
  obtain ⟨x69, x70⟩ := qAnd x67
  obtain ⟨x71, x72⟩ := qAnd x70
  obtain ⟨x73, x74⟩ := qAnd x68
  obtain ⟨x75, x76⟩ := qAnd x74
  obtain ⟨x77, x78⟩ := qAnd x54
  obtain ⟨x79, x80⟩ := qAnd x77
  obtain ⟨x81, x82⟩ := qAnd x79
  obtain ⟨x83, x84⟩ := qAnd x82
  obtain ⟨x85, x86⟩ := qAnd x80
  obtain ⟨x87, x88⟩ := qAnd x86
  obtain ⟨x89, x90⟩ := qAnd x78
  obtain ⟨x91, x92⟩ := qAnd x89
  obtain ⟨x93, x94⟩ := qAnd x92
  obtain ⟨x95, x96⟩ := qAnd x90
  obtain ⟨x97, x98⟩ := qAnd x95
  obtain ⟨x99, x100⟩ := qAnd x96
  obtain ⟨x101, x102⟩ := qAnd x4
  obtain ⟨x103, x104⟩ := qAnd x101
  obtain ⟨x105, x106⟩ := qAnd x103
  obtain ⟨x107, x108⟩ := qAnd x105
  obtain ⟨x109, x110⟩ := qAnd x107
  obtain ⟨x111, x112⟩ := qAnd x110
  obtain ⟨x113, x114⟩ := qAnd x108
  obtain ⟨x115, x116⟩ := qAnd x114
  obtain ⟨x117, x118⟩ := qAnd x106
  obtain ⟨x119, x120⟩ := qAnd x117
  obtain ⟨x121, x122⟩ := qAnd x120
  obtain ⟨x123, x124⟩ := qAnd x118
  obtain ⟨x125, x126⟩ := qAnd x124
  obtain ⟨x127, x128⟩ := qAnd x104
  obtain ⟨x129, x130⟩ := qAnd x127
  obtain ⟨x131, x132⟩ := qAnd x129
  obtain ⟨x133, x134⟩ := qAnd x132
  obtain ⟨x135, x136⟩ := qAnd x130
  obtain ⟨x137, x138⟩ := qAnd x136
  obtain ⟨x139, x140⟩ := qAnd x128
  obtain ⟨x141, x142⟩ := qAnd x139
  obtain ⟨x143, x144⟩ := qAnd x142
  obtain ⟨x145, x146⟩ := qAnd x140
  obtain ⟨x147, x148⟩ := qAnd x145
  obtain ⟨x149, x150⟩ := qAnd x146
  obtain ⟨x151, x152⟩ := qAnd x102
  obtain ⟨x153, x154⟩ := qAnd x151
  obtain ⟨x155, x156⟩ := qAnd x153
  obtain ⟨x157, x158⟩ := qAnd x155
  obtain ⟨x159, x160⟩ := qAnd x158
  obtain ⟨x161, x162⟩ := qAnd x156
  obtain ⟨x163, x164⟩ := qAnd x162
  obtain ⟨x165, x166⟩ := qAnd x154
  obtain ⟨x167, x168⟩ := qAnd x165
  obtain ⟨x169, x170⟩ := qAnd x168
  obtain ⟨x171, x172⟩ := qAnd x166
  obtain ⟨x173, x174⟩ := qAnd x172
  obtain ⟨x175, x176⟩ := qAnd x152
  obtain ⟨x177, x178⟩ := qAnd x175
  obtain ⟨x179, x180⟩ := qAnd x177
  obtain ⟨x181, x182⟩ := qAnd x180
  obtain ⟨x183, x184⟩ := qAnd x178
  obtain ⟨x185, x186⟩ := qAnd x184
  obtain ⟨x187, x188⟩ := qAnd x176
  obtain ⟨x189, x190⟩ := qAnd x187
  obtain ⟨x191, x192⟩ := qAnd x190
  obtain ⟨x193, x194⟩ := qAnd x188
  obtain ⟨x195, x196⟩ := qAnd x193
  obtain ⟨x197, x198⟩ := qAnd x194
  obtain ⟨x199, x200⟩ := qAnd x2
  obtain ⟨x201, x202⟩ := qAnd x199
  obtain ⟨x203, x204⟩ := qAnd x201
  obtain ⟨x205, x206⟩ := qAnd x203
  obtain ⟨x207, x208⟩ := qAnd x205
  obtain ⟨x209, x210⟩ := qAnd x207
  obtain ⟨x211, x212⟩ := qAnd x210
  obtain ⟨x213, x214⟩ := qAnd x208
  obtain ⟨x215, x216⟩ := qAnd x214
  obtain ⟨x217, x218⟩ := qAnd x206
  obtain ⟨x219, x220⟩ := qAnd x217
  obtain ⟨x221, x222⟩ := qAnd x220
  obtain ⟨x223, x224⟩ := qAnd x218
  obtain ⟨x225, x226⟩ := qAnd x224
  obtain ⟨x227, x228⟩ := qAnd x204
  obtain ⟨x229, x230⟩ := qAnd x227
  obtain ⟨x231, x232⟩ := qAnd x229
  obtain ⟨x233, x234⟩ := qAnd x232
  obtain ⟨x235, x236⟩ := qAnd x230
  obtain ⟨x237, x238⟩ := qAnd x236
  obtain ⟨x239, x240⟩ := qAnd x228
  obtain ⟨x241, x242⟩ := qAnd x239
  obtain ⟨x243, x244⟩ := qAnd x242
  obtain ⟨x245, x246⟩ := qAnd x240
  obtain ⟨x247, x248⟩ := qAnd x246
  obtain ⟨x249, x250⟩ := qAnd x202
  obtain ⟨x251, x252⟩ := qAnd x249
  obtain ⟨x253, x254⟩ := qAnd x251
  obtain ⟨x255, x256⟩ := qAnd x253
  obtain ⟨x257, x258⟩ := qAnd x256
  obtain ⟨x259, x260⟩ := qAnd x254
  obtain ⟨x261, x262⟩ := qAnd x260
  obtain ⟨x263, x264⟩ := qAnd x252
  obtain ⟨x265, x266⟩ := qAnd x263
  obtain ⟨x267, x268⟩ := qAnd x266
  obtain ⟨x269, x270⟩ := qAnd x264
  obtain ⟨x271, x272⟩ := qAnd x270
  obtain ⟨x273, x274⟩ := qAnd x250
  obtain ⟨x275, x276⟩ := qAnd x273
  obtain ⟨x277, x278⟩ := qAnd x275
  obtain ⟨x279, x280⟩ := qAnd x278
  obtain ⟨x281, x282⟩ := qAnd x276
  obtain ⟨x283, x284⟩ := qAnd x282
  obtain ⟨x285, x286⟩ := qAnd x274
  obtain ⟨x287, x288⟩ := qAnd x285
  obtain ⟨x289, x290⟩ := qAnd x288
  obtain ⟨x291, x292⟩ := qAnd x286
  obtain ⟨x293, x294⟩ := qAnd x291
  obtain ⟨x295, x296⟩ := qAnd x292
  obtain ⟨x297, x298⟩ := qAnd x200
  obtain ⟨x299, x300⟩ := qAnd x297
  obtain ⟨x301, x302⟩ := qAnd x299
  obtain ⟨x303, x304⟩ := qAnd x301
  obtain ⟨x305, x306⟩ := qAnd x303
  obtain ⟨x307, x308⟩ := qAnd x306
  obtain ⟨x309, x310⟩ := qAnd x304
  obtain ⟨x311, x312⟩ := qAnd x310
  obtain ⟨x313, x314⟩ := qAnd x302
  obtain ⟨x315, x316⟩ := qAnd x313
  obtain ⟨x317, x318⟩ := qAnd x316
  obtain ⟨x319, x320⟩ := qAnd x314
  obtain ⟨x321, x322⟩ := qAnd x320
  obtain ⟨x323, x324⟩ := qAnd x300
  obtain ⟨x325, x326⟩ := qAnd x323
  obtain ⟨x327, x328⟩ := qAnd x325
  obtain ⟨x329, x330⟩ := qAnd x328
  obtain ⟨x331, x332⟩ := qAnd x326
  obtain ⟨x333, x334⟩ := qAnd x332
  obtain ⟨x335, x336⟩ := qAnd x324
  obtain ⟨x337, x338⟩ := qAnd x335
  obtain ⟨x339, x340⟩ := qAnd x338
  obtain ⟨x341, x342⟩ := qAnd x336
  obtain ⟨x343, x344⟩ := qAnd x341
  obtain ⟨x345, x346⟩ := qAnd x342
  obtain ⟨x347, x348⟩ := qAnd x298
  obtain ⟨x349, x350⟩ := qAnd x347
  obtain ⟨x351, x352⟩ := qAnd x349
  obtain ⟨x353, x354⟩ := qAnd x351
  obtain ⟨x355, x356⟩ := qAnd x354
  obtain ⟨x357, x358⟩ := qAnd x352
  obtain ⟨x359, x360⟩ := qAnd x358
  obtain ⟨x361, x362⟩ := qAnd x350
  obtain ⟨x363, x364⟩ := qAnd x361
  obtain ⟨x365, x366⟩ := qAnd x364
  obtain ⟨x367, x368⟩ := qAnd x362
  obtain ⟨x369, x370⟩ := qAnd x368
  obtain ⟨x371, x372⟩ := qAnd x348
  obtain ⟨x373, x374⟩ := qAnd x371
  obtain ⟨x375, x376⟩ := qAnd x373
  obtain ⟨x377, x378⟩ := qAnd x376
  obtain ⟨x379, x380⟩ := qAnd x374
  obtain ⟨x381, x382⟩ := qAnd x380
  obtain ⟨x383, x384⟩ := qAnd x372
  obtain ⟨x385, x386⟩ := qAnd x383
  obtain ⟨x387, x388⟩ := qAnd x386
  obtain ⟨x389, x390⟩ := qAnd x384
  obtain ⟨x391, x392⟩ := qAnd x389
  obtain ⟨x393, x394⟩ := qAnd x390
  have hex : ∀ i : Nat, i < 14 → (Cond.exactly (pTm i) "java/lang/String").before args s = true := fun i hi => by
    rcases (show i = 0 ∨ i = 1 ∨ i = 2 ∨ i = 3 ∨ i = 4 ∨ i = 5 ∨ i = 6 ∨ i = 7 ∨ i = 8 ∨ i = 9 ∨ i = 10 ∨ i = 11 ∨ i = 12 ∨ i = 13 by omega) with rfl | rfl | rfl | rfl | rfl | rfl | rfl | rfl | rfl | rfl | rfl | rfl | rfl | rfl
    · exact x25
    · exact x37
    · exact x49
    · exact x69
    · exact x87
    · exact x112
    · exact x135
    · exact x160
    · exact x185
    · exact x221
    · exact x255
    · exact x327
    · exact x360
    · exact x289
  have hco : ∀ i : Nat, i < 14 → (Cond.eq (.field (pTm i) "java/lang/String" "coder" "B") (.int 0)).before args s = true := fun i hi => by
    rcases (show i = 0 ∨ i = 1 ∨ i = 2 ∨ i = 3 ∨ i = 4 ∨ i = 5 ∨ i = 6 ∨ i = 7 ∨ i = 8 ∨ i = 9 ∨ i = 10 ∨ i = 11 ∨ i = 12 ∨ i = 13 by omega) with rfl | rfl | rfl | rfl | rfl | rfl | rfl | rfl | rfl | rfl | rfl | rfl | rfl | rfl
    · exact x26
    · exact x38
    · exact x51
    · exact x71
    · exact x88
    · exact x113
    · exact x137
    · exact x161
    · exact x186
    · exact x222
    · exact x257
    · exact x329
    · exact x363
    · exact x290
  have har : ∀ i : Nat, i < 14 → (Cond.arrayOf (.field (pTm i) "java/lang/String" "value" "[B") .byte).before args s = true := fun i hi => by
    rcases (show i = 0 ∨ i = 1 ∨ i = 2 ∨ i = 3 ∨ i = 4 ∨ i = 5 ∨ i = 6 ∨ i = 7 ∨ i = 8 ∨ i = 9 ∨ i = 10 ∨ i = 11 ∨ i = 12 ∨ i = 13 by omega) with rfl | rfl | rfl | rfl | rfl | rfl | rfl | rfl | rfl | rfl | rfl | rfl | rfl | rfl
    · exact x27
    · exact x39
    · exact x52
    · exact x72
    · exact x91
    · exact x115
    · exact x138
    · exact x163
    · exact x189
    · exact x223
    · exact x258
    · exact x330
    · exact x365
    · exact x293
  have hle : ∀ i : Nat, i < 14 → (Cond.eq (.length (.field (pTm i) "java/lang/String" "value" "[B")) (.int (Int32.ofNat (pLen.getD i 0)))).before args s = true := fun i hi => by
    rcases (show i = 0 ∨ i = 1 ∨ i = 2 ∨ i = 3 ∨ i = 4 ∨ i = 5 ∨ i = 6 ∨ i = 7 ∨ i = 8 ∨ i = 9 ∨ i = 10 ∨ i = 11 ∨ i = 12 ∨ i = 13 by omega) with rfl | rfl | rfl | rfl | rfl | rfl | rfl | rfl | rfl | rfl | rfl | rfl | rfl | rfl
    · exact x29
    · exact x41
    · exact x59
    · exact x73
    · exact x93
    · exact x116
    · exact x141
    · exact x164
    · exact x191
    · exact x225
    · exact x259
    · exact x331
    · exact x366
    · exact x294
  have hel : ∀ i : Nat, i < 14 → ∀ j : Nat, j < pLen.getD i 0 → (Cond.eq (.elem (.field (pTm i) "java/lang/String" "value" "[B") (.int (Int32.ofNat j))) (.int ((pByt.getD i []).getD j 0))).before args s = true := fun i hi => by
    rcases (show i = 0 ∨ i = 1 ∨ i = 2 ∨ i = 3 ∨ i = 4 ∨ i = 5 ∨ i = 6 ∨ i = 7 ∨ i = 8 ∨ i = 9 ∨ i = 10 ∨ i = 11 ∨ i = 12 ∨ i = 13 by omega) with rfl | rfl | rfl | rfl | rfl | rfl | rfl | rfl | rfl | rfl | rfl | rfl | rfl | rfl
    · intro j hj
      have hj2 : j < 2 := hj
      rcases (show j = 0 ∨ j = 1 by omega) with rfl | rfl
      · exact x30
      · exact x35
    · intro j hj
      have hj2 : j < 3 := hj
      rcases (show j = 0 ∨ j = 1 ∨ j = 2 by omega) with rfl | rfl | rfl
      · exact x42
      · exact x45
      · exact x47
    · intro j hj
      have hj2 : j < 3 := hj
      rcases (show j = 0 ∨ j = 1 ∨ j = 2 by omega) with rfl | rfl | rfl
      · exact x61
      · exact x62
      · exact x63
    · intro j hj
      have hj2 : j < 3 := hj
      rcases (show j = 0 ∨ j = 1 ∨ j = 2 by omega) with rfl | rfl | rfl
      · exact x75
      · exact x76
      · exact x81
    · intro j hj
      have hj2 : j < 3 := hj
      rcases (show j = 0 ∨ j = 1 ∨ j = 2 by omega) with rfl | rfl | rfl
      · exact x94
      · exact x97
      · exact x98
    · intro j hj
      have hj2 : j < 4 := hj
      rcases (show j = 0 ∨ j = 1 ∨ j = 2 ∨ j = 3 by omega) with rfl | rfl | rfl | rfl
      · exact x119
      · exact x121
      · exact x122
      · exact x123
    · intro j hj
      have hj2 : j < 2 := hj
      rcases (show j = 0 ∨ j = 1 by omega) with rfl | rfl
      · exact x143
      · exact x144
    · intro j hj
      have hj2 : j < 3 := hj
      rcases (show j = 0 ∨ j = 1 ∨ j = 2 by omega) with rfl | rfl | rfl
      · exact x167
      · exact x169
      · exact x170
    · intro j hj
      have hj2 : j < 4 := hj
      rcases (show j = 0 ∨ j = 1 ∨ j = 2 ∨ j = 3 by omega) with rfl | rfl | rfl | rfl
      · exact x192
      · exact x195
      · exact x196
      · exact x197
    · intro j hj
      have hj2 : j < 4 := hj
      rcases (show j = 0 ∨ j = 1 ∨ j = 2 ∨ j = 3 by omega) with rfl | rfl | rfl | rfl
      · exact x226
      · exact x231
      · exact x233
      · exact x234
    · intro j hj
      have hj2 : j < 5 := hj
      rcases (show j = 0 ∨ j = 1 ∨ j = 2 ∨ j = 3 ∨ j = 4 by omega) with rfl | rfl | rfl | rfl | rfl
      · exact x261
      · exact x262
      · exact x265
      · exact x267
      · exact x268
    · intro j hj
      have hj2 : j < 2 := hj
      rcases (show j = 0 ∨ j = 1 by omega) with rfl | rfl
      · exact x333
      · exact x334
    · intro j hj
      have hj2 : j < 3 := hj
      rcases (show j = 0 ∨ j = 1 ∨ j = 2 by omega) with rfl | rfl | rfl
      · exact x367
      · exact x369
      · exact x370
    · intro j hj
      have hj2 : j < 3 := hj
      rcases (show j = 0 ∨ j = 1 ∨ j = 2 by omega) with rfl | rfl | rfl
      · exact x295
      · exact x296
      · exact x305
  have hne : ∀ i j : Nat, i < 14 → j < 14 → i ≠ j → (Cond.not (Cond.eq (pTm i) (pTm j))).before args s = true ∨ (Cond.not (Cond.eq (pTm j) (pTm i))).before args s = true := fun i j hi hj hij => by
    rcases (show i = 0 ∨ i = 1 ∨ i = 2 ∨ i = 3 ∨ i = 4 ∨ i = 5 ∨ i = 6 ∨ i = 7 ∨ i = 8 ∨ i = 9 ∨ i = 10 ∨ i = 11 ∨ i = 12 ∨ i = 13 by omega) with rfl | rfl | rfl | rfl | rfl | rfl | rfl | rfl | rfl | rfl | rfl | rfl | rfl | rfl
    · rcases (show j = 0 ∨ j = 1 ∨ j = 2 ∨ j = 3 ∨ j = 4 ∨ j = 5 ∨ j = 6 ∨ j = 7 ∨ j = 8 ∨ j = 9 ∨ j = 10 ∨ j = 11 ∨ j = 12 ∨ j = 13 by omega) with rfl | rfl | rfl | rfl | rfl | rfl | rfl | rfl | rfl | rfl | rfl | rfl | rfl | rfl
      · exact absurd rfl hij
      · exact Or.inl x48
      · exact Or.inl x65
      · exact Or.inl x83
      · exact Or.inl x99
      · exact Or.inl x125
      · exact Or.inl x147
      · exact Or.inl x171
      · exact Or.inl x198
      · exact Or.inl x235
      · exact Or.inl x269
      · exact Or.inl x337
      · exact Or.inl x375
      · exact Or.inl x307
    · rcases (show j = 0 ∨ j = 1 ∨ j = 2 ∨ j = 3 ∨ j = 4 ∨ j = 5 ∨ j = 6 ∨ j = 7 ∨ j = 8 ∨ j = 9 ∨ j = 10 ∨ j = 11 ∨ j = 12 ∨ j = 13 by omega) with rfl | rfl | rfl | rfl | rfl | rfl | rfl | rfl | rfl | rfl | rfl | rfl | rfl | rfl
      · exact Or.inr x48
      · exact absurd rfl hij
      · exact Or.inl x66
      · exact Or.inl x84
      · exact Or.inl x100
      · exact Or.inl x126
      · exact Or.inl x148
      · exact Or.inl x173
      · exact Or.inl x209
      · exact Or.inl x237
      · exact Or.inl x271
      · exact Or.inl x339
      · exact Or.inl x377
      · exact Or.inl x308
    · rcases (show j = 0 ∨ j = 1 ∨ j = 2 ∨ j = 3 ∨ j = 4 ∨ j = 5 ∨ j = 6 ∨ j = 7 ∨ j = 8 ∨ j = 9 ∨ j = 10 ∨ j = 11 ∨ j = 12 ∨ j = 13 by omega) with rfl | rfl | rfl | rfl | rfl | rfl | rfl | rfl | rfl | rfl | rfl | rfl | rfl | rfl
      · exact Or.inr x65
      · exact Or.inr x66
      · exact absurd rfl hij
      · exact Or.inl x85
      · exact Or.inl x109
      · exact Or.inl x131
      · exact Or.inl x149
      · exact Or.inl x174
      · exact Or.inl x211
      · exact Or.inl x238
      · exact Or.inl x272
      · exact Or.inl x340
      · exact Or.inl x378
      · exact Or.inl x309
    · rcases (show j = 0 ∨ j = 1 ∨ j = 2 ∨ j = 3 ∨ j = 4 ∨ j = 5 ∨ j = 6 ∨ j = 7 ∨ j = 8 ∨ j = 9 ∨ j = 10 ∨ j = 11 ∨ j = 12 ∨ j = 13 by omega) with rfl | rfl | rfl | rfl | rfl | rfl | rfl | rfl | rfl | rfl | rfl | rfl | rfl | rfl
      · exact Or.inr x83
      · exact Or.inr x84
      · exact Or.inr x85
      · exact absurd rfl hij
      · exact Or.inl x111
      · exact Or.inl x133
      · exact Or.inl x150
      · exact Or.inl x179
      · exact Or.inl x212
      · exact Or.inl x241
      · exact Or.inl x277
      · exact Or.inl x343
      · exact Or.inl x379
      · exact Or.inl x311
    · rcases (show j = 0 ∨ j = 1 ∨ j = 2 ∨ j = 3 ∨ j = 4 ∨ j = 5 ∨ j = 6 ∨ j = 7 ∨ j = 8 ∨ j = 9 ∨ j = 10 ∨ j = 11 ∨ j = 12 ∨ j = 13 by omega) with rfl | rfl | rfl | rfl | rfl | rfl | rfl | rfl | rfl | rfl | rfl | rfl | rfl | rfl
      · exact Or.inr x99
      · exact Or.inr x100
      · exact Or.inr x109
      · exact Or.inr x111
      · exact absurd rfl hij
      · exact Or.inl x134
      · exact Or.inl x157
      · exact Or.inl x181
      · exact Or.inl x213
      · exact Or.inl x243
      · exact Or.inl x279
      · exact Or.inl x344
      · exact Or.inl x381
      · exact Or.inl x312
    · rcases (show j = 0 ∨ j = 1 ∨ j = 2 ∨ j = 3 ∨ j = 4 ∨ j = 5 ∨ j = 6 ∨ j = 7 ∨ j = 8 ∨ j = 9 ∨ j = 10 ∨ j = 11 ∨ j = 12 ∨ j = 13 by omega) with rfl | rfl | rfl | rfl | rfl | rfl | rfl | rfl | rfl | rfl | rfl | rfl | rfl | rfl
      · exact Or.inr x125
      · exact Or.inr x126
      · exact Or.inr x131
      · exact Or.inr x133
      · exact Or.inr x134
      · exact absurd rfl hij
      · exact Or.inl x159
      · exact Or.inl x182
      · exact Or.inl x215
      · exact Or.inl x244
      · exact Or.inl x280
      · exact Or.inl x345
      · exact Or.inl x382
      · exact Or.inl x315
    · rcases (show j = 0 ∨ j = 1 ∨ j = 2 ∨ j = 3 ∨ j = 4 ∨ j = 5 ∨ j = 6 ∨ j = 7 ∨ j = 8 ∨ j = 9 ∨ j = 10 ∨ j = 11 ∨ j = 12 ∨ j = 13 by omega) with rfl | rfl | rfl | rfl | rfl | rfl | rfl | rfl | rfl | rfl | rfl | rfl | rfl | rfl
      · exact Or.inr x147
      · exact Or.inr x148
      · exact Or.inr x149
      · exact Or.inr x150
      · exact Or.inr x157
      · exact Or.inr x159
      · exact absurd rfl hij
      · exact Or.inl x183
      · exact Or.inl x216
      · exact Or.inl x245
      · exact Or.inl x281
      · exact Or.inl x346
      · exact Or.inl x385
      · exact Or.inl x317
    · rcases (show j = 0 ∨ j = 1 ∨ j = 2 ∨ j = 3 ∨ j = 4 ∨ j = 5 ∨ j = 6 ∨ j = 7 ∨ j = 8 ∨ j = 9 ∨ j = 10 ∨ j = 11 ∨ j = 12 ∨ j = 13 by omega) with rfl | rfl | rfl | rfl | rfl | rfl | rfl | rfl | rfl | rfl | rfl | rfl | rfl | rfl
      · exact Or.inr x171
      · exact Or.inr x173
      · exact Or.inr x174
      · exact Or.inr x179
      · exact Or.inr x181
      · exact Or.inr x182
      · exact Or.inr x183
      · exact absurd rfl hij
      · exact Or.inl x219
      · exact Or.inl x247
      · exact Or.inl x283
      · exact Or.inl x353
      · exact Or.inl x387
      · exact Or.inl x318
    · rcases (show j = 0 ∨ j = 1 ∨ j = 2 ∨ j = 3 ∨ j = 4 ∨ j = 5 ∨ j = 6 ∨ j = 7 ∨ j = 8 ∨ j = 9 ∨ j = 10 ∨ j = 11 ∨ j = 12 ∨ j = 13 by omega) with rfl | rfl | rfl | rfl | rfl | rfl | rfl | rfl | rfl | rfl | rfl | rfl | rfl | rfl
      · exact Or.inr x198
      · exact Or.inr x209
      · exact Or.inr x211
      · exact Or.inr x212
      · exact Or.inr x213
      · exact Or.inr x215
      · exact Or.inr x216
      · exact Or.inr x219
      · exact absurd rfl hij
      · exact Or.inl x248
      · exact Or.inl x284
      · exact Or.inl x355
      · exact Or.inl x388
      · exact Or.inl x319
    · rcases (show j = 0 ∨ j = 1 ∨ j = 2 ∨ j = 3 ∨ j = 4 ∨ j = 5 ∨ j = 6 ∨ j = 7 ∨ j = 8 ∨ j = 9 ∨ j = 10 ∨ j = 11 ∨ j = 12 ∨ j = 13 by omega) with rfl | rfl | rfl | rfl | rfl | rfl | rfl | rfl | rfl | rfl | rfl | rfl | rfl | rfl
      · exact Or.inr x235
      · exact Or.inr x237
      · exact Or.inr x238
      · exact Or.inr x241
      · exact Or.inr x243
      · exact Or.inr x244
      · exact Or.inr x245
      · exact Or.inr x247
      · exact Or.inr x248
      · exact absurd rfl hij
      · exact Or.inl x287
      · exact Or.inl x356
      · exact Or.inl x391
      · exact Or.inl x321
    · rcases (show j = 0 ∨ j = 1 ∨ j = 2 ∨ j = 3 ∨ j = 4 ∨ j = 5 ∨ j = 6 ∨ j = 7 ∨ j = 8 ∨ j = 9 ∨ j = 10 ∨ j = 11 ∨ j = 12 ∨ j = 13 by omega) with rfl | rfl | rfl | rfl | rfl | rfl | rfl | rfl | rfl | rfl | rfl | rfl | rfl | rfl
      · exact Or.inr x269
      · exact Or.inr x271
      · exact Or.inr x272
      · exact Or.inr x277
      · exact Or.inr x279
      · exact Or.inr x280
      · exact Or.inr x281
      · exact Or.inr x283
      · exact Or.inr x284
      · exact Or.inr x287
      · exact absurd rfl hij
      · exact Or.inl x357
      · exact Or.inl x392
      · exact Or.inl x322
    · rcases (show j = 0 ∨ j = 1 ∨ j = 2 ∨ j = 3 ∨ j = 4 ∨ j = 5 ∨ j = 6 ∨ j = 7 ∨ j = 8 ∨ j = 9 ∨ j = 10 ∨ j = 11 ∨ j = 12 ∨ j = 13 by omega) with rfl | rfl | rfl | rfl | rfl | rfl | rfl | rfl | rfl | rfl | rfl | rfl | rfl | rfl
      · exact Or.inr x337
      · exact Or.inr x339
      · exact Or.inr x340
      · exact Or.inr x343
      · exact Or.inr x344
      · exact Or.inr x345
      · exact Or.inr x346
      · exact Or.inr x353
      · exact Or.inr x355
      · exact Or.inr x356
      · exact Or.inr x357
      · exact absurd rfl hij
      · exact Or.inl x394
      · exact Or.inr x359
    · rcases (show j = 0 ∨ j = 1 ∨ j = 2 ∨ j = 3 ∨ j = 4 ∨ j = 5 ∨ j = 6 ∨ j = 7 ∨ j = 8 ∨ j = 9 ∨ j = 10 ∨ j = 11 ∨ j = 12 ∨ j = 13 by omega) with rfl | rfl | rfl | rfl | rfl | rfl | rfl | rfl | rfl | rfl | rfl | rfl | rfl | rfl
      · exact Or.inr x375
      · exact Or.inr x377
      · exact Or.inr x378
      · exact Or.inr x379
      · exact Or.inr x381
      · exact Or.inr x382
      · exact Or.inr x385
      · exact Or.inr x387
      · exact Or.inr x388
      · exact Or.inr x391
      · exact Or.inr x392
      · exact Or.inr x394
      · exact absurd rfl hij
      · exact Or.inr x393
    · rcases (show j = 0 ∨ j = 1 ∨ j = 2 ∨ j = 3 ∨ j = 4 ∨ j = 5 ∨ j = 6 ∨ j = 7 ∨ j = 8 ∨ j = 9 ∨ j = 10 ∨ j = 11 ∨ j = 12 ∨ j = 13 by omega) with rfl | rfl | rfl | rfl | rfl | rfl | rfl | rfl | rfl | rfl | rfl | rfl | rfl | rfl
      · exact Or.inr x307
      · exact Or.inr x308
      · exact Or.inr x309
      · exact Or.inr x311
      · exact Or.inr x312
      · exact Or.inr x315
      · exact Or.inr x317
      · exact Or.inr x318
      · exact Or.inr x319
      · exact Or.inr x321
      · exact Or.inr x322
      · exact Or.inl x359
      · exact Or.inl x393
      · exact absurd rfl hij
  obtain ⟨adK, adV, hS, hev⟩ := vk_Sof (args := args) (s := s) (N := 14) (tm := pTm) (len := pLen) (byt := pByt) (A := A) (fun i hi => by have := (pLenB hi).2; omega) hex hco har hle hel hne hA
  refine ⟨(adK, adV), hS, ?_, ?_, ?_⟩
  · exact va_Zof (hts _ (ut2 _ (List.mem_of_getElem? (i := 116) rfl))) (hts _ (ut1 _ (List.mem_of_getElem? (i := 13) rfl))) (va_eqt x16) hA
  · exact va_Zqof (hts _ (ut2 _ (List.mem_of_getElem? (i := 132) rfl))) (hts _ (ut1 _ (List.mem_of_getElem? (i := 15) rfl))) x17 hA
  · refine ⟨?_, ?_, ?_, ?_, ?_, ?_, ?_, ?_, ?_, ?_, ?_, ?_, ?_, ?_, ?_, ?_, ?_⟩
    · exact va_Nw.of rfl (hts _ (ut2 _ (List.mem_of_getElem? (i := 64) rfl)))
    · exact va_Nw.of rfl (hts _ (ut2 _ (List.mem_of_getElem? (i := 67) rfl)))
    · exact va_Nw.of rfl (hts _ (ut2 _ (List.mem_of_getElem? (i := 163) rfl)))
    · exact vk_R.of (A := args) (hts _ (ut2 _ (List.mem_of_getElem? (i := 96) rfl))) (hev 0 (by omega))
    · exact vk_R.of (A := args) (hts _ (ut2 _ (List.mem_of_getElem? (i := 97) rfl))) (hev 1 (by omega))
    · exact vk_R.of (A := args) (hts _ (ut2 _ (List.mem_of_getElem? (i := 98) rfl))) (hev 2 (by omega))
    · exact vk_R.of (A := args) (hts _ (ut2 _ (List.mem_of_getElem? (i := 155) rfl))) (hev 3 (by omega))
    · exact vk_R.of (A := args) (hts _ (ut2 _ (List.mem_of_getElem? (i := 156) rfl))) (hev 4 (by omega))
    · exact vk_R.of (A := args) (hts _ (ut2 _ (List.mem_of_getElem? (i := 157) rfl))) (hev 5 (by omega))
    · exact vk_R.of (A := args) (hts _ (ut2 _ (List.mem_of_getElem? (i := 158) rfl))) (hev 6 (by omega))
    · exact vk_R.of (A := args) (hts _ (ut2 _ (List.mem_of_getElem? (i := 159) rfl))) (hev 7 (by omega))
    · exact vk_R.of (A := args) (hts _ (ut2 _ (List.mem_of_getElem? (i := 160) rfl))) (hev 8 (by omega))
    · exact vk_R.of (A := args) (hts _ (ut2 _ (List.mem_of_getElem? (i := 161) rfl))) (hev 9 (by omega))
    · exact vk_R.of (A := args) (hts _ (ut2 _ (List.mem_of_getElem? (i := 162) rfl))) (hev 10 (by omega))
    · exact vk_R.of (A := args) (hts _ (ut2 _ (List.mem_of_getElem? (i := 176) rfl))) (hev 13 (by omega))
    · exact vk_R.of (A := args) (hts _ (ut2 _ (List.mem_of_getElem? (i := 181) rfl))) (hev 11 (by omega))
    · exact vk_R.of (A := args) (hts _ (ut2 _ (List.mem_of_getElem? (i := 182) rfl))) (hev 12 (by omega))
