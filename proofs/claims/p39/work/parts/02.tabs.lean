def mm_tb (k j : Nat) : Option Cond := match k with
  | 0 => (lw_privs[j]?).map (fun q => Cond.selects q.1.cls q.1 q.1)
  | 1 => tables_1_1[j]?
  | 2 => tables_1_2[j]?
  | 3 => tables_1_3[j]?
  | 4 => tables_1_4[j]?
  | 5 => tables_1_5[j]?
  | 6 => tables_1_6[j]?
  | _ => none
theorem mm_tb_in {k j : Nat} {w : Cond} (h : mm_tb k j = some w) : w ∈ lw_tbl := by
  unfold mm_tb at h
  unfold lw_tbl
  split at h
  · obtain ⟨q, h1, h2⟩ : ∃ q, lw_privs[j]? = some q ∧ Cond.selects q.1.cls q.1 q.1 = w := by
      cases hq : lw_privs[j]? with
      | none => rw [hq] at h; cases h
      | some q => rw [hq] at h; exact ⟨q, rfl, Option.some.inj h⟩
    exact List.mem_append_left _ (List.mem_map.mpr ⟨q, List.mem_of_getElem? h1, h2⟩)
  · exact List.mem_append_right _ (by unfold tables_1; simp only [List.mem_append]; have := List.mem_of_getElem? h; exact Or.inl this)
  · exact List.mem_append_right _ (by unfold tables_1; simp only [List.mem_append]; have := List.mem_of_getElem? h; exact Or.inr (Or.inl this))
  · exact List.mem_append_right _ (by unfold tables_1; simp only [List.mem_append]; have := List.mem_of_getElem? h; exact Or.inr (Or.inr (Or.inl this)))
  · exact List.mem_append_right _ (by unfold tables_1; simp only [List.mem_append]; have := List.mem_of_getElem? h; exact Or.inr (Or.inr (Or.inr (Or.inl this))))
  · exact List.mem_append_right _ (by unfold tables_1; simp only [List.mem_append]; have := List.mem_of_getElem? h; exact Or.inr (Or.inr (Or.inr (Or.inr (Or.inl this)))))
  · exact List.mem_append_right _ (by unfold tables_1; simp only [List.mem_append]; have := List.mem_of_getElem? h; exact Or.inr (Or.inr (Or.inr (Or.inr (Or.inr (this))))))
  · cases h
-- the methods: name, code, locals, answer, number of its arguments (the receiver aside), static?
abbrev mm_Y : Type := MethodName × ByteArray × Nat × Option FieldType × Nat × Bool × List (Nat × Nat) × (Nat × Nat)
def mm_has (ps : List (Nat × Nat)) (ws : List Cond) : Bool := decide (ps.map (fun p => mm_tb p.1 p.2) = ws.map some)
theorem mm_has_in {ps : List (Nat × Nat)} {ws : List Cond} (h : mm_has ps ws = true) : ∀ w ∈ ws, w ∈ lw_tbl := by
  intro w hw
  have h1 := of_decide_eq_true h
  have h2 : some w ∈ ws.map some := List.mem_map.mpr ⟨w, hw, rfl⟩
  rw [← h1] at h2
  obtain ⟨p, -, hp⟩ := List.mem_map.mp h2
  exact mm_tb_in hp
theorem inX0 : ∀ w ∈ wsX00, w ∈ lw_tbl := mm_has_in (ps := [(2, 94), (2, 96), (2, 98), (2, 100), (2, 102), (2, 104), (2, 106), (2, 108)]) (by decide +kernel)
theorem inX1 : ∀ w ∈ wsX10, w ∈ lw_tbl := mm_has_in (ps := [(2, 65), (2, 67), (2, 69), (2, 71)]) (by decide +kernel)
theorem inX2 : ∀ w ∈ wsX20, w ∈ lw_tbl := mm_has_in (ps := [(2, 25), (2, 27), (2, 29), (2, 31), (2, 33), (2, 35), (2, 37), (2, 39), (2, 41), (2, 43), (2, 45), (2, 47)]) (by decide +kernel)
theorem inX3 : ∀ w ∈ wsX30, w ∈ lw_tbl := mm_has_in (ps := [(2, 129), (2, 131), (2, 133)]) (by decide +kernel)
theorem inX4 : ∀ w ∈ wsX40, w ∈ lw_tbl := mm_has_in (ps := [(1, 114), (1, 116), (1, 118), (1, 120), (1, 122), (1, 124), (1, 126), (1, 128), (1, 130), (1, 132), (1, 134), (1, 136), (1, 138), (1, 140), (1, 142), (1, 144)]) (by decide +kernel)
theorem inX5 : ∀ w ∈ wsX50, w ∈ lw_tbl := mm_has_in (ps := [(1, 212), (1, 214), (1, 216), (1, 218), (1, 220), (1, 222), (1, 224), (1, 226), (1, 228), (1, 230)]) (by decide +kernel)
theorem inX6 : ∀ w ∈ wsX60, w ∈ lw_tbl := mm_has_in (ps := [(1, 182), (1, 184), (1, 186), (1, 188), (1, 190), (1, 192), (1, 194)]) (by decide +kernel)
theorem inX7 : ∀ w ∈ wsX70, w ∈ lw_tbl := mm_has_in (ps := [(2, 147), (2, 149), (2, 151)]) (by decide +kernel)
theorem inX8 : ∀ w ∈ wsX80, w ∈ lw_tbl := mm_has_in (ps := [(1, 44), (1, 46)]) (by decide +kernel)
theorem inX9 : ∀ w ∈ wsX90, w ∈ lw_tbl := mm_has_in (ps := [(2, 165), (2, 167), (2, 169), (2, 171), (2, 173), (2, 175), (2, 177), (2, 179), (2, 181), (2, 183), (2, 185)]) (by decide +kernel)
theorem inX10 : ∀ w ∈ wsX100, w ∈ lw_tbl := mm_has_in (ps := [(5, 38), (5, 40), (5, 42), (5, 44), (5, 46), (5, 48), (5, 50), (5, 52), (5, 54), (5, 56), (5, 58), (5, 60), (5, 62), (5, 64), (5, 66), (5, 68), (5, 70), (5, 72), (5, 74), (5, 76), (5, 78), (5, 80), (5, 82), (5, 84), (5, 86), (5, 88), (5, 90), (5, 92), (5, 94), (5, 96), (5, 98), (5, 100), (5, 102), (5, 104), (5, 106), (5, 108), (5, 110), (5, 112), (5, 114), (5, 116), (5, 118), (5, 120), (5, 122), (5, 124), (5, 126), (5, 128)]) (by decide +kernel)
theorem mm_ac0 : mm_has [(1, 147)] [.arrayClass .int] = true := by decide +kernel
theorem mm_ac1 : mm_has [(2, 50)] [.arrayClass .long] = true := by decide +kernel
theorem mm_ac2 : mm_has [(1, 49)] [.arrayClass .byte] = true := by decide +kernel
theorem mm_ac3 : mm_has [(5, 131)] [.arrayClass .boolean] = true := by decide +kernel
def mm_nest : List Cond := [.methodLinkNest "RainOrgan" 9 ⟨"RainOrgan$Reader", "<init>", "()V"⟩ "RainOrgan",
  .methodLinkNest "RainOrgan$Reader" 11 ⟨"RainOrgan$Tape", "<init>", "()V"⟩ "RainOrgan",
  .methodLinkNest "RainOrgan$Reader" 20 ⟨"RainOrgan$Plan", "<init>", "()V"⟩ "RainOrgan",
  .methodLinkNest "RainOrgan$Reader" 27 ⟨"RainOrgan$Setup", "<init>", "()V"⟩ "RainOrgan",
  .methodLinkNest "RainOrgan" 23 ⟨"RainOrgan$Plan", "<init>", "()V"⟩ "RainOrgan",
  .methodLinkNest "RainOrgan" 30 ⟨"RainOrgan$Setup", "<init>", "()V"⟩ "RainOrgan",
  .methodLinkNest "RainOrgan" 37 ⟨"RainOrgan$Flow", "<init>", "()V"⟩ "RainOrgan",
  .methodLinkNest "RainOrgan" 44 ⟨"RainOrgan$Concert", "<init>", "()V"⟩ "RainOrgan",
  .methodLinkNest "RainOrgan$Concert" 11 ⟨"RainOrgan$Flow", "<init>", "()V"⟩ "RainOrgan",
  .methodLinkNest "RainOrgan" 51 ⟨"RainOrgan$Choice", "<init>", "()V"⟩ "RainOrgan",
  .methodLinkNest "RainOrgan" 68 ⟨"RainOrgan$Image", "<init>", "()V"⟩ "RainOrgan",
  .methodLinkNest "RainOrgan$Image" 9 ⟨"RainOrgan$Setup", "<init>", "()V"⟩ "RainOrgan",
  .methodLinkNest "RainOrgan$Image" 18 ⟨"RainOrgan$Flow", "<init>", "()V"⟩ "RainOrgan",
  .methodLinkNest "RainOrgan" 69 ⟨"RainOrgan$Sheet", "<init>", "()V"⟩ "RainOrgan",
  .methodLinkNest "RainOrgan$Reader" 180 ⟨"RainOrgan", "hasSize", "(I)Z"⟩ "RainOrgan"]
theorem mm_nest_in : ∀ w ∈ mm_nest, w ∈ lw_tbl := mm_has_in (ps := [(1, 29), (1, 35), (1, 52), (1, 150), (1, 234), (1, 236), (1, 239), (2, 53), (2, 58), (2, 76), (2, 116), (2, 121), (2, 123), (2, 137), (3, 98)]) (by decide +kernel)
theorem mm_ao0 : mm_has [(2, 112)] [.arrayOver (.object "RainOrgan$Image")] = true := by decide +kernel
theorem mm_ao1 : mm_has [(2, 114)] [.arrayOver (.object "RainOrgan$Sheet")] = true := by decide +kernel
theorem mm_ao2 : mm_has [(1, 155)] [.arrayOver (.array .int)] = true := by decide +kernel
theorem mm_in0 : mm_has [(2, 75)] [.instantiable RX0 8] = true := by decide +kernel
theorem mm_in1 : mm_has [(2, 52)] [.instantiable RX1 4] = true := by decide +kernel
theorem mm_in2 : mm_has [(1, 238)] [.instantiable RX2 12] = true := by decide +kernel
theorem mm_in3 : mm_has [(2, 115)] [.instantiable RX3 3] = true := by decide +kernel
theorem mm_in4 : mm_has [(1, 51)] [.instantiable RX4 16] = true := by decide +kernel
theorem mm_in5 : mm_has [(1, 28)] [.instantiable RX5 10] = true := by decide +kernel
theorem mm_in6 : mm_has [(1, 149)] [.instantiable RX6 7] = true := by decide +kernel
theorem mm_in7 : mm_has [(2, 136)] [.instantiable RX7 3] = true := by decide +kernel
theorem mm_in8 : mm_has [(1, 34)] [.instantiable RX8 2] = true := by decide +kernel
theorem mm_in9 : mm_has [(1, 20)] [.instantiable RX9 11] = true := by decide +kernel
theorem mm_in10 : mm_has [(4, 227)] [.instantiable RX10 46] = true := by decide +kernel
abbrev mm_K : Type := Nat × Nat × Nat × Nat × Int × List (Nat × Nat)
def mm_tl : List (Nat × String) := [(93, "roof"), (102, "peg"), (161, "gutter"), (107, "spout"), (163, "ground"), (189, "slate"), (191, "tip"), (193, "leak"), (195, "each"), (197, "join"), (199, "frozen"), (112, "rain"), (117, "tune"), (122, "sleep"), (127, "wear")]
def mm_txt : List (List Int32) := [[114, 111, 111, 102], [112, 101, 103], [103, 117, 116, 116, 101, 114], [115, 112, 111, 117, 116], [103, 114, 111, 117, 110, 100], [115, 108, 97, 116, 101], [116, 105, 112], [108, 101, 97, 107], [101, 97, 99, 104], [106, 111, 105, 110], [102, 114, 111, 122, 101, 110], [114, 97, 105, 110], [116, 117, 110, 101], [115, 108, 101, 101, 112], [119, 101, 97, 114]]
abbrev mm_T : Type := List (List (Nat × Instr × Nat))
abbrev mm_R : Type := mm_Y × String × mm_T × List mm_K
-- 0: "RainOrgan$Choice" "<init>"
def mm_t0 : mm_T := [[(0, .aload_n 0, 1), (1, .invokespecial 3, 3), (4, .return_, 1)]]
def mm_r0 : mm_R := ((yX0_init, cX0_init, 1, none, 0, false, [(2, 77), (1, 8)], (2, 78)),
   RX0, mm_t0, [(3, 6, 0, 0, 0, [(2, 79), (1, 25), (1, 26)])])
-- 1: "RainOrgan$Choice" "begin"
def mm_t1 : mm_T := [[(0, .aload_n 0, 1), (1, .iload_n 1, 1), (2, .putfield 9, 3), (5, .aload_n 0, 1), (6, .iload_n 2, 1), (7, .putfield 15, 3), (10, .aload_n 0, 1), (11, .iconst 0, 1), (12, .putfield 18, 3), (15, .return_, 1)]]
def mm_r1 : mm_R := ((yX0_begin, cX0_begin, 3, none, 2, false, [(4, 97), (1, 8), (4, 98)], (4, 99)),
   RX0, mm_t1, [(9, 0, 0, 6, 0, [(2, 92)]),
    (15, 0, 0, 7, 0, [(2, 93)]),
    (18, 0, 0, 3, 0, [(2, 86)])])
-- 2: "RainOrgan$Choice" "offer"
def mm_t2 : mm_T := [[(0, .aload_n 0, 1), (1, .iload_n 1, 1), (2, .invokevirtual 21, 3), (5, .istore_n 3, 1), (6, .aload_n 0, 1), (7, .getfield 18, 3), (10, .ifCond .eq 11, 3), (13, .iload_n 2, 1), (14, .aload_n 0, 1), (15, .getfield 25, 3), (18, .if_icmp .ge 7, 3), (21, .iconst 1, 1), (22, .goto 4, 3), (25, .iconst 0, 1), (26, .istore 4, 2), (28, .aload_n 0, 1), (29, .dup, 1), (30, .getfield 18, 3)],
   [(33, .iconst 1, 1), (34, .iadd, 1), (35, .putfield 18, 3), (38, .iload 4, 2), (40, .ifCond .eq 18, 3), (43, .aload_n 0, 1), (44, .iload_n 1, 1), (45, .putfield 28, 3), (48, .aload_n 0, 1), (49, .iload_n 2, 1), (50, .putfield 25, 3), (53, .aload_n 0, 1), (54, .iconst 0, 1), (55, .putfield 31, 3), (58, .iload_n 2, 1), (59, .aload_n 0, 1), (60, .getfield 25, 3), (63, .if_icmp .ne 36, 3)],
   [(66, .aload_n 0, 1), (67, .dup, 1), (68, .getfield 31, 3), (71, .iconst 1, 1), (72, .iadd, 1), (73, .putfield 31, 3), (76, .iload 4, 2), (78, .ifCond .ne 11, 3), (81, .iload_n 3, 1), (82, .aload_n 0, 1), (83, .getfield 34, 3), (86, .if_icmp .ge 13, 3), (89, .aload_n 0, 1), (90, .iload_n 1, 1), (91, .putfield 37, 3), (94, .aload_n 0, 1), (95, .iload_n 3, 1)],
   [(96, .putfield 34, 3), (99, .return_, 1)]]
def mm_r2 : mm_R := ((yX0_offer, cX0_offer, 5, none, 2, false, [(4, 105), (1, 8), (4, 106)], (4, 107)),
   RX0, mm_t2, [(18, 0, 0, 3, 0, [(2, 86)]),
    (21, 1, 3, 0, 0, [(4, 108)]),
    (25, 0, 0, 1, 0, [(2, 82)]),
    (28, 0, 0, 0, 0, [(2, 80)]),
    (31, 0, 0, 2, 0, [(2, 84)]),
    (34, 0, 0, 5, 0, [(2, 90)]),
    (37, 0, 0, 4, 0, [(2, 88)])])
-- 3: "RainOrgan$Choice" "changedPegs"
def mm_t3 : mm_T := [[(0, .aload_n 0, 1), (1, .getfield 9, 3), (4, .istore_n 2, 1), (5, .iload_n 1, 1), (6, .istore_n 3, 1), (7, .iconst 0, 1), (8, .istore 4, 2), (10, .iconst 0, 1), (11, .istore 5, 2), (13, .iload 5, 2), (15, .aload_n 0, 1), (16, .getfield 15, 3), (19, .if_icmp .ge 36, 3), (22, .iload 4, 2), (24, .iload_n 2, 1), (25, .iconst 3, 1), (26, .irem, 1), (27, .iload_n 3, 1), (28, .iconst 3, 1), (29, .irem, 1), (30, .if_icmp .eq 7, 3)],
   [(33, .iconst 1, 1), (34, .goto 4, 3), (37, .iconst 0, 1), (38, .iadd, 1), (39, .istore 4, 2), (41, .iload_n 2, 1), (42, .iconst 3, 1), (43, .idiv, 1), (44, .istore_n 2, 1), (45, .iload_n 3, 1), (46, .iconst 3, 1), (47, .idiv, 1), (48, .istore_n 3, 1), (49, .iinc 5 1, 3), (52, .goto (-39), 3), (55, .iload 4, 2), (57, .ireturn, 1)]]
def mm_r3 : mm_R := ((yX0_changedPegs, cX0_changedPegs, 6, (some .int), 1, false, [(4, 110), (1, 8), (0, 38)], (4, 111)),
   RX0, mm_t3, [(9, 0, 0, 6, 0, [(2, 92)]),
    (15, 0, 0, 7, 0, [(2, 93)])])
-- 4: "RainOrgan$Concert" "<init>"
def mm_t4 : mm_T := [[(0, .aload_n 0, 1), (1, .invokespecial 3, 3), (4, .aload_n 0, 1), (5, .new 9, 3), (8, .dup, 1), (9, .invokespecial 11, 3), (12, .putfield 12, 3), (15, .aload_n 0, 1), (16, .bipush 12, 2), (18, .newarray .int, 2), (20, .putfield 18, 3), (23, .aload_n 0, 1), (24, .bipush 12, 2), (26, .newarray .int, 2), (28, .putfield 22, 3), (31, .return_, 1)]]
def mm_r4 : mm_R := ((yX1_init, cX1_init, 1, none, 0, false, [(2, 54), (1, 7)], (2, 55)),
   RX1, mm_t4, [(3, 6, 0, 0, 0, [(2, 56), (1, 25), (1, 26)]),
    (9, 7, 2, 0, 0, [(2, 57), (1, 238), (1, 6)]),
    (11, 4, 9, 0, 8, []),
    (12, 0, 1, 0, 1, [(2, 59)]),
    (18, 0, 1, 1, 1, [(2, 61)]),
    (22, 0, 1, 2, 1, [(2, 63)])])
-- 5: "RainOrgan$Concert" "perform"
def mm_t5 : mm_T := [[(0, .aload_n 0, 1), (1, .getfield 12, 3), (4, .invokevirtual 25, 3), (7, .aload_n 0, 1), (8, .aload_n 2, 1), (9, .getfield 28, 3), (12, .iload_n 3, 1), (13, .iaload, 1), (14, .putfield 33, 3), (17, .iconst 0, 1), (18, .istore 4, 2), (20, .iload 4, 2), (22, .aload_n 0, 1), (23, .getfield 33, 3), (26, .if_icmp .ge 60, 3), (29, .aload_n 0, 1), (30, .getfield 12, 3)],
   [(33, .getfield 37, 3), (36, .istore 5, 2), (38, .aload_n 0, 1), (39, .getfield 18, 3), (42, .iload 4, 2), (44, .aload_n 0, 1), (45, .getfield 12, 3), (48, .aload_n 1, 1), (49, .aload_n 2, 1), (50, .aload_n 2, 1), (51, .getfield 40, 3), (54, .iload_n 3, 1), (55, .aaload, 1), (56, .iload 4, 2), (58, .iaload, 1), (59, .invokevirtual 44, 3), (62, .iastore, 1), (63, .aload_n 0, 1)],
   [(64, .getfield 22, 3), (67, .iload 4, 2), (69, .aload_n 0, 1), (70, .getfield 12, 3), (73, .getfield 37, 3), (76, .iload 5, 2), (78, .isub, 1), (79, .iastore, 1), (80, .iinc 4 1, 3), (83, .goto (-63), 3), (86, .return_, 1)]]
def mm_r5 : mm_R := ((yX1_perform, cX1_perform, 6, none, 3, false, [(4, 41), (1, 7), (4, 42)], (4, 43)),
   RX1, mm_t5, [(12, 0, 1, 0, 2, [(2, 59)]),
    (18, 0, 1, 1, 2, [(2, 61)]),
    (22, 0, 1, 2, 2, [(2, 63)]),
    (25, 1, 10, 2, 0, [(4, 44)]),
    (28, 0, 6, 3, 2, [(1, 167)]),
    (33, 0, 1, 3, 0, [(2, 64)]),
    (37, 0, 2, 8, 0, [(2, 18)]),
    (40, 0, 6, 4, 2, [(1, 171)]),
    (44, 1, 12, 2, 0, [(4, 45)])])
-- 6: "RainOrgan$Concert" "farFromTune"
def mm_t6 : mm_T := [[(0, .iconst 0, 1), (1, .istore_n 2, 1), (2, .iconst 0, 1), (3, .istore_n 3, 1), (4, .iload_n 3, 1), (5, .bipush 12, 2), (7, .if_icmp .ge 60, 3), (10, .iload_n 3, 1), (11, .aload_n 0, 1), (12, .getfield 33, 3), (15, .if_icmp .ge 12, 3), (18, .aload_n 0, 1), (19, .getfield 18, 3), (22, .iload_n 3, 1), (23, .iaload, 1), (24, .goto 4, 3), (27, .iconst 0, 1), (28, .istore 4, 2), (30, .iload_n 3, 1), (31, .aload_n 1, 1)],
   [(32, .getfield 48, 3), (35, .if_icmp .ge 12, 3), (38, .aload_n 1, 1), (39, .getfield 51, 3), (42, .iload_n 3, 1), (43, .iaload, 1), (44, .goto 4, 3), (47, .iconst 0, 1), (48, .istore 5, 2), (50, .iload_n 2, 1), (51, .iload 4, 2), (53, .iload 5, 2), (55, .ixor, 1), (56, .invokestatic 54, 3), (59, .iadd, 1), (60, .istore_n 2, 1), (61, .iinc 3 1, 3)],
   [(64, .goto (-60), 3), (67, .iload_n 2, 1), (68, .ireturn, 1)]]
def mm_r6 : mm_R := ((yX1_farFromTune, cX1_farFromTune, 6, (some .int), 1, false, [(4, 79), (1, 7), (4, 80)], (4, 81)),
   RX1, mm_t6, [(18, 0, 1, 1, 2, [(2, 61)]),
    (33, 0, 1, 3, 0, [(2, 64)]),
    (48, 0, 6, 6, 0, [(1, 179)]),
    (51, 0, 6, 5, 2, [(1, 175)]),
    (54, 2, 192, 0, 0, [(4, 82)])])
-- 7: "RainOrgan$Concert" "loudestSecond"
def mm_t7 : mm_T := [[(0, .iconst 0, 1), (1, .istore_n 1, 1), (2, .bipush (-4), 2), (4, .istore_n 2, 1), (5, .iconst 0, 1), (6, .istore_n 3, 1), (7, .iload_n 3, 1), (8, .aload_n 0, 1), (9, .getfield 33, 3), (12, .if_icmp .ge 28, 3), (15, .aload_n 0, 1), (16, .getfield 22, 3), (19, .iload_n 3, 1), (20, .iaload, 1), (21, .iload_n 1, 1), (22, .if_icmp .le 12, 3), (25, .aload_n 0, 1), (26, .getfield 22, 3), (29, .iload_n 3, 1), (30, .iaload, 1), (31, .istore_n 1, 1)],
   [(32, .iload_n 3, 1), (33, .istore_n 2, 1), (34, .iinc 3 1, 3), (37, .goto (-30), 3), (40, .iload_n 2, 1), (41, .ireturn, 1)]]
def mm_r7 : mm_R := ((yX1_loudestSecond, cX1_loudestSecond, 4, (some .int), 0, false, [(4, 51), (1, 7), (4, 52)], (4, 53)),
   RX1, mm_t7, [(22, 0, 1, 2, 2, [(2, 63)]),
    (33, 0, 1, 3, 0, [(2, 64)])])
-- 8: "RainOrgan$Concert" "wokenSleepers"
def mm_t8 : mm_T := [[(0, .iconst 0, 1), (1, .istore_n 2, 1), (2, .iconst 0, 1), (3, .istore_n 3, 1), (4, .iload_n 3, 1), (5, .aload_n 1, 1), (6, .getfield 60, 3), (9, .if_icmp .ge 69, 3), (12, .aload_n 1, 1), (13, .getfield 65, 3), (16, .iload_n 3, 1), (17, .iaload, 1), (18, .istore 4, 2), (20, .iload 4, 2), (22, .aload_n 1, 1), (23, .getfield 68, 3), (26, .iload_n 3, 1), (27, .iaload, 1), (28, .if_icmp .gt 44, 3), (31, .iload 4, 2)],
   [(33, .aload_n 0, 1), (34, .getfield 33, 3), (37, .if_icmp .ge 35, 3), (40, .iload_n 2, 1), (41, .aload_n 0, 1), (42, .getfield 22, 3), (45, .iload 4, 2), (47, .iaload, 1), (48, .aload_n 1, 1), (49, .getfield 71, 3), (52, .iload_n 3, 1), (53, .iaload, 1), (54, .if_icmp .lt 9, 3), (57, .iconst 1, 1), (58, .iload_n 3, 1), (59, .ishl, 1), (60, .goto 4, 3), (63, .iconst 0, 1)],
   [(64, .ior, 1), (65, .istore_n 2, 1), (66, .iinc 4 1, 3), (69, .goto (-49), 3), (72, .iinc 3 1, 3), (75, .goto (-71), 3), (78, .iload_n 2, 1), (79, .ireturn, 1)]]
def mm_r8 : mm_R := ((yX1_wokenSleepers, cX1_wokenSleepers, 5, (some .int), 1, false, [(4, 101), (1, 7), (4, 102)], (4, 103)),
   RX1, mm_t8, [(22, 0, 1, 2, 2, [(2, 63)]),
    (33, 0, 1, 3, 0, [(2, 64)]),
    (60, 0, 4, 11, 0, [(1, 98)]),
    (65, 0, 4, 12, 2, [(1, 102)]),
    (68, 0, 4, 13, 2, [(1, 105)]),
    (71, 0, 4, 14, 2, [(1, 108)])])
-- 9: "RainOrgan$Flow" "<init>"
def mm_t9 : mm_T := [[(0, .aload_n 0, 1), (1, .invokespecial 3, 3), (4, .aload_n 0, 1), (5, .bipush 8, 2), (7, .newarray .int, 2), (9, .putfield 9, 3), (12, .aload_n 0, 1), (13, .bipush 8, 2), (15, .newarray .int, 2), (17, .putfield 15, 3), (20, .aload_n 0, 1), (21, .bipush 8, 2), (23, .newarray .long, 2), (25, .putfield 18, 3), (28, .aload_n 0, 1), (29, .bipush 8, 2), (31, .newarray .int, 2)],
   [(33, .putfield 22, 3), (36, .aload_n 0, 1), (37, .bipush 8, 2), (39, .newarray .int, 2), (41, .putfield 25, 3), (44, .aload_n 0, 1), (45, .iconst 5, 1), (46, .newarray .int, 2), (48, .putfield 28, 3), (51, .aload_n 0, 1), (52, .bipush 8, 2), (54, .newarray .int, 2), (56, .putfield 31, 3), (59, .return_, 1)]]
def mm_r9 : mm_R := ((yX2_init, cX2_init, 1, none, 0, false, [(2, 0), (1, 6)], (2, 1)),
   RX2, mm_t9, [(3, 6, 0, 0, 0, [(2, 2), (1, 25), (1, 26)]),
    (9, 0, 2, 0, 1, [(2, 3)]),
    (15, 0, 2, 1, 1, [(2, 5)]),
    (18, 0, 2, 2, 1, [(2, 6)]),
    (22, 0, 2, 3, 1, [(2, 8)]),
    (25, 0, 2, 4, 1, [(2, 10)]),
    (28, 0, 2, 10, 1, [(2, 23)]),
    (31, 0, 2, 11, 1, [(2, 24)])])
-- 10: "RainOrgan$Flow" "dryUp"
def mm_t10 : mm_T := [[(0, .aload_n 0, 1), (1, .getfield 9, 3), (4, .iconst 0, 1), (5, .invokestatic 34, 3), (8, .aload_n 0, 1), (9, .getfield 15, 3), (12, .iconst 0, 1), (13, .invokestatic 34, 3), (16, .aload_n 0, 1), (17, .getfield 18, 3), (20, .lconst 0, 1), (21, .invokestatic 40, 3), (24, .aload_n 0, 1), (25, .getfield 22, 3), (28, .iconst 0, 1), (29, .invokestatic 34, 3)],
   [(32, .aload_n 0, 1), (33, .getfield 25, 3), (36, .iconst 0, 1), (37, .invokestatic 34, 3), (40, .aload_n 0, 1), (41, .iconst 0, 1), (42, .putfield 43, 3), (45, .aload_n 0, 1), (46, .iconst 0, 1), (47, .putfield 47, 3), (50, .aload_n 0, 1), (51, .iconst 0, 1), (52, .putfield 50, 3), (55, .aload_n 0, 1), (56, .iconst 0, 1), (57, .putfield 53, 3), (60, .aload_n 0, 1), (61, .iconst 0, 1), (62, .putfield 56, 3)],
   [(65, .return_, 1)]]
def mm_r10 : mm_R := ((yX2_dryUp, cX2_dryUp, 1, none, 0, false, [(3, 134), (1, 6), (3, 135)], (3, 136)),
   RX2, mm_t10, [(9, 0, 2, 0, 2, [(2, 3)]),
    (15, 0, 2, 1, 2, [(2, 5)]),
    (18, 0, 2, 2, 2, [(2, 6)]),
    (22, 0, 2, 3, 2, [(2, 8)]),
    (25, 0, 2, 4, 2, [(2, 10)]),
    (34, 2, 200, 0, 0, [(3, 137)]),
    (40, 2, 199, 0, 0, [(3, 138)]),
    (43, 0, 2, 5, 0, [(2, 12)]),
    (47, 0, 2, 6, 0, [(2, 14)]),
    (50, 0, 2, 7, 0, [(2, 16)]),
    (53, 0, 2, 8, 0, [(2, 19)]),
    (56, 0, 2, 9, 0, [(2, 21)])])
-- 11: "RainOrgan$Flow" "copyFrom"
def mm_t11 : mm_T := [[(0, .aload_n 1, 1), (1, .getfield 9, 3), (4, .iconst 0, 1), (5, .aload_n 0, 1), (6, .getfield 9, 3), (9, .iconst 0, 1), (10, .bipush 8, 2), (12, .invokestatic 59, 3), (15, .aload_n 1, 1), (16, .getfield 15, 3), (19, .iconst 0, 1), (20, .aload_n 0, 1), (21, .getfield 15, 3), (24, .iconst 0, 1), (25, .bipush 8, 2), (27, .invokestatic 59, 3), (30, .aload_n 1, 1), (31, .getfield 18, 3)],
   [(34, .iconst 0, 1), (35, .aload_n 0, 1), (36, .getfield 18, 3), (39, .iconst 0, 1), (40, .bipush 8, 2), (42, .invokestatic 59, 3), (45, .aload_n 1, 1), (46, .getfield 22, 3), (49, .iconst 0, 1), (50, .aload_n 0, 1), (51, .getfield 22, 3), (54, .iconst 0, 1), (55, .bipush 8, 2), (57, .invokestatic 59, 3), (60, .aload_n 1, 1), (61, .getfield 25, 3)],
   [(64, .iconst 0, 1), (65, .aload_n 0, 1), (66, .getfield 25, 3), (69, .iconst 0, 1), (70, .bipush 8, 2), (72, .invokestatic 59, 3), (75, .aload_n 0, 1), (76, .aload_n 1, 1), (77, .getfield 43, 3), (80, .putfield 43, 3), (83, .aload_n 0, 1), (84, .aload_n 1, 1), (85, .getfield 47, 3), (88, .putfield 47, 3), (91, .aload_n 0, 1), (92, .aload_n 1, 1), (93, .getfield 50, 3)],
   [(96, .putfield 50, 3), (99, .aload_n 0, 1), (100, .aload_n 1, 1), (101, .getfield 53, 3), (104, .putfield 53, 3), (107, .aload_n 0, 1), (108, .aload_n 1, 1), (109, .getfield 56, 3), (112, .putfield 56, 3), (115, .return_, 1)]]
def mm_r11 : mm_R := ((yX2_copyFrom, cX2_copyFrom, 2, none, 1, false, [(4, 170), (1, 6), (4, 171)], (4, 172)),
   RX2, mm_t11, [(9, 0, 2, 0, 2, [(2, 3)]),
    (15, 0, 2, 1, 2, [(2, 5)]),
    (18, 0, 2, 2, 2, [(2, 6)]),
    (22, 0, 2, 3, 2, [(2, 8)]),
    (25, 0, 2, 4, 2, [(2, 10)]),
    (43, 0, 2, 5, 0, [(2, 12)]),
    (47, 0, 2, 6, 0, [(2, 14)]),
    (50, 0, 2, 7, 0, [(2, 16)]),
    (53, 0, 2, 8, 0, [(2, 19)]),
    (56, 0, 2, 9, 0, [(2, 21)]),
    (59, 12, 0, 0, 0, [(3, 213), (3, 215), (3, 214), (1, 17)])])
-- 12: "RainOrgan$Flow" "passSecond"
def mm_t12 : mm_T := [[(0, .aload_n 0, 1), (1, .getfield 22, 3), (4, .iconst 0, 1), (5, .aload_n 0, 1), (6, .getfield 31, 3), (9, .iconst 0, 1), (10, .bipush 8, 2), (12, .invokestatic 59, 3), (15, .aload_n 0, 1), (16, .getfield 22, 3), (19, .iconst 0, 1), (20, .invokestatic 34, 3), (23, .aload_n 0, 1), (24, .getfield 28, 3), (27, .iconst 0, 1), (28, .invokestatic 34, 3), (31, .aload_n 0, 1)],
   [(32, .aload_n 1, 1), (33, .iload_n 3, 1), (34, .invokevirtual 65, 3), (37, .aload_n 0, 1), (38, .aload_n 1, 1), (39, .aload_n 2, 1), (40, .invokevirtual 69, 3), (43, .aload_n 0, 1), (44, .aload_n 1, 1), (45, .aload_n 2, 1), (46, .invokevirtual 73, 3), (49, .istore 4, 2), (51, .aload_n 0, 1), (52, .dup, 1), (53, .getfield 43, 3), (56, .iconst 1, 1), (57, .iadd, 1), (58, .putfield 43, 3), (61, .iload 4, 2), (63, .ireturn, 1)]]
def mm_r12 : mm_R := ((yX2_passSecond, cX2_passSecond, 5, (some .int), 3, false, [(3, 210), (1, 6), (3, 211)], (3, 212)),
   RX2, mm_t12, [(22, 0, 2, 3, 2, [(2, 8)]),
    (28, 0, 2, 10, 2, [(2, 23)]),
    (31, 0, 2, 11, 2, [(2, 24)]),
    (34, 2, 200, 0, 0, [(3, 137)]),
    (43, 0, 2, 5, 0, [(2, 12)]),
    (59, 12, 0, 0, 0, [(3, 213), (3, 215), (3, 214), (1, 17)]),
    (65, 1, 13, 2, 0, [(3, 216)]),
    (69, 1, 14, 2, 0, [(3, 224)]),
    (73, 1, 17, 2, 0, [(3, 232)])])
-- 13: "RainOrgan$Flow" "fallOnRoofs"
def mm_t13 : mm_T := [[(0, .iconst 0, 1), (1, .istore_n 3, 1), (2, .iload_n 3, 1), (3, .aload_n 1, 1), (4, .getfield 77, 3), (7, .if_icmp .ge 42, 3), (10, .aload_n 1, 1), (11, .getfield 82, 3), (14, .iload_n 3, 1), (15, .iaload, 1), (16, .iload_n 2, 1), (17, .imul, 1), (18, .istore 4, 2), (20, .aload_n 0, 1), (21, .dup, 1), (22, .getfield 47, 3), (25, .iload 4, 2), (27, .iadd, 1), (28, .putfield 47, 3), (31, .aload_n 0, 1)],
   [(32, .aload_n 1, 1), (33, .getfield 85, 3), (36, .iload_n 3, 1), (37, .iaload, 1), (38, .iload 4, 2), (40, .invokevirtual 88, 3), (43, .iinc 3 1, 3), (46, .goto (-44), 3), (49, .return_, 1)]]
def mm_r13 : mm_R := ((yX2_fallOnRoofs, cX2_fallOnRoofs, 5, none, 2, false, [(3, 218), (1, 6), (0, 25)], (3, 219)),
   RX2, mm_t13, [(47, 0, 2, 6, 0, [(2, 14)]),
    (77, 0, 4, 0, 0, [(1, 57)]),
    (82, 0, 4, 1, 2, [(1, 61)]),
    (85, 0, 4, 2, 2, [(1, 64)]),
    (88, 1, 16, 2, 0, [(3, 220)])])
-- 14: "RainOrgan$Flow" "runThroughGutters"
def mm_t14 : mm_T := [[(0, .iconst 0, 1), (1, .istore_n 3, 1), (2, .iload_n 3, 1), (3, .aload_n 1, 1), (4, .getfield 92, 3), (7, .if_icmp .ge 81, 3), (10, .aload_n 0, 1), (11, .getfield 28, 3), (14, .iload_n 3, 1), (15, .iaload, 1), (16, .istore 4, 2), (18, .aload_n 2, 1), (19, .getfield 95, 3), (22, .iload_n 3, 1), (23, .iaload, 1), (24, .ifCond .eq 17, 3), (27, .aload_n 0, 1), (28, .dup, 1), (29, .getfield 50, 3)],
   [(32, .iload 4, 2), (34, .iadd, 1), (35, .putfield 50, 3), (38, .goto 44, 3), (41, .aload_n 0, 1), (42, .aload_n 2, 1), (43, .getfield 100, 3), (46, .iload_n 3, 1), (47, .iaload, 1), (48, .iload 4, 2), (50, .invokevirtual 103, 3), (53, .istore 5, 2), (55, .aload_n 0, 1), (56, .aload_n 1, 1), (57, .getfield 107, 3), (60, .iload_n 3, 1), (61, .iaload, 1), (62, .iload 5, 2)],
   [(64, .invokevirtual 88, 3), (67, .aload_n 0, 1), (68, .aload_n 1, 1), (69, .getfield 110, 3), (72, .iload_n 3, 1), (73, .iaload, 1), (74, .iload 4, 2), (76, .iload 5, 2), (78, .isub, 1), (79, .invokevirtual 88, 3), (82, .iinc 3 1, 3), (85, .goto (-83), 3), (88, .return_, 1)]]
def mm_r14 : mm_R := ((yX2_runThroughGutters, cX2_runThroughGutters, 6, none, 2, false, [(3, 226), (1, 6), (0, 27)], (3, 227)),
   RX2, mm_t14, [(28, 0, 2, 10, 2, [(2, 23)]),
    (50, 0, 2, 7, 0, [(2, 16)]),
    (88, 1, 16, 2, 0, [(3, 220)]),
    (92, 0, 4, 3, 0, [(1, 67)]),
    (95, 0, 6, 1, 2, [(1, 160)]),
    (100, 0, 6, 0, 2, [(1, 157)]),
    (103, 1, 15, 2, 0, [(3, 228)]),
    (107, 0, 4, 4, 2, [(1, 71)]),
    (110, 0, 4, 5, 2, [(1, 75)])])
-- 15: "RainOrgan$Flow" "shareOfLeft"
def mm_t15 : mm_T := [[(0, .iload_n 1, 1), (1, .ifCond .ne 5, 3), (4, .iload_n 2, 1), (5, .ireturn, 1), (6, .iload_n 1, 1), (7, .iconst 1, 1), (8, .if_icmp .ne 5, 3), (11, .iconst 0, 1), (12, .ireturn, 1), (13, .aload_n 0, 1), (14, .getfield 43, 3), (17, .iconst 2, 1), (18, .irem, 1), (19, .ifCond .ne 7, 3), (22, .iconst 1, 1), (23, .goto 4, 3), (26, .iconst 0, 1), (27, .istore_n 3, 1), (28, .iload_n 3, 1), (29, .ifCond .eq 11, 3)],
   [(32, .iload_n 2, 1), (33, .iload_n 2, 1), (34, .iconst 2, 1), (35, .idiv, 1), (36, .isub, 1), (37, .goto 6, 3), (40, .iload_n 2, 1), (41, .iconst 2, 1), (42, .idiv, 1), (43, .ireturn, 1)]]
def mm_r15 : mm_R := ((yX2_shareOfLeft, cX2_shareOfLeft, 4, (some .int), 2, false, [(3, 230), (1, 6), (0, 28)], (3, 231)),
   RX2, mm_t15, [(43, 0, 2, 5, 0, [(2, 12)])])
-- 16: "RainOrgan$Flow" "lead"
def mm_t16 : mm_T := [[(0, .iload_n 1, 1), (1, .ifCond .lt 21, 3), (4, .iload_n 1, 1), (5, .iconst 5, 1), (6, .if_icmp .ge 16, 3), (9, .aload_n 0, 1), (10, .getfield 28, 3), (13, .iload_n 1, 1), (14, .dup2, 1), (15, .iaload, 1), (16, .iload_n 2, 1), (17, .iadd, 1), (18, .iastore, 1), (19, .goto 41, 3), (22, .iload_n 1, 1), (23, .bipush 10, 2), (25, .if_icmp .lt 25, 3), (28, .iload_n 1, 1), (29, .bipush 18, 2), (31, .if_icmp .ge 19, 3)],
   [(34, .aload_n 0, 1), (35, .getfield 31, 3), (38, .iload_n 1, 1), (39, .bipush 10, 2), (41, .isub, 1), (42, .dup2, 1), (43, .iaload, 1), (44, .iload_n 2, 1), (45, .iadd, 1), (46, .iastore, 1), (47, .goto 13, 3), (50, .aload_n 0, 1), (51, .dup, 1), (52, .getfield 50, 3), (55, .iload_n 2, 1), (56, .iadd, 1), (57, .putfield 50, 3), (60, .return_, 1)]]
def mm_r16 : mm_R := ((yX2_lead, cX2_lead, 3, none, 2, false, [(3, 222), (1, 6), (0, 26)], (3, 223)),
   RX2, mm_t16, [(28, 0, 2, 10, 2, [(2, 23)]),
    (31, 0, 2, 11, 2, [(2, 24)]),
    (50, 0, 2, 7, 0, [(2, 16)])])
-- 17: "RainOrgan$Flow" "fillCups"
def mm_t17 : mm_T := [[(0, .iconst 0, 1), (1, .istore_n 3, 1), (2, .iconst 0, 1), (3, .istore 4, 2), (5, .iload 4, 2), (7, .aload_n 1, 1), (8, .getfield 113, 3), (11, .if_icmp .ge 127, 3), (14, .aload_n 0, 1), (15, .aload_n 1, 1), (16, .iload 4, 2), (18, .invokevirtual 116, 3), (21, .istore 5, 2), (23, .aload_n 0, 1), (24, .getfield 31, 3), (27, .iload 4, 2), (29, .iaload, 1), (30, .istore 6, 2)],
   [(32, .aload_n 0, 1), (33, .getfield 18, 3), (36, .iload 4, 2), (38, .dup2, 1), (39, .laload, 1), (40, .iload 6, 2), (42, .i2l, 1), (43, .ladd, 1), (44, .lastore, 1), (45, .aload_n 0, 1), (46, .aload_n 1, 1), (47, .aload_n 2, 1), (48, .getfield 120, 3), (51, .iload 4, 2), (53, .iaload, 1), (54, .iload 4, 2), (56, .iload 6, 2), (58, .invokevirtual 123, 3), (61, .istore 7, 2), (63, .aload_n 0, 1)],
   [(64, .getfield 25, 3), (67, .iload 4, 2), (69, .iload 5, 2), (71, .ifCond .eq 7, 3), (74, .iconst 0, 1), (75, .goto 5, 3), (78, .iload 7, 2), (80, .iastore, 1), (81, .aload_n 0, 1), (82, .getfield 25, 3), (85, .iload 4, 2), (87, .iaload, 1), (88, .ifCond .le 44, 3), (91, .aload_n 0, 1), (92, .dup, 1), (93, .getfield 53, 3)],
   [(96, .aload_n 0, 1), (97, .getfield 25, 3), (100, .iload 4, 2), (102, .iaload, 1), (103, .iadd, 1), (104, .putfield 53, 3), (107, .aload_n 0, 1), (108, .dup, 1), (109, .getfield 56, 3), (112, .iconst 1, 1), (113, .iload 4, 2), (115, .ishl, 1), (116, .ior, 1), (117, .putfield 56, 3), (120, .iload_n 3, 1), (121, .iconst 1, 1), (122, .aload_n 1, 1), (123, .getfield 127, 3), (126, .iload 4, 2)],
   [(128, .iaload, 1), (129, .ishl, 1), (130, .ior, 1), (131, .istore_n 3, 1), (132, .iinc 4 1, 3), (135, .goto (-130), 3), (138, .iload_n 3, 1), (139, .ireturn, 1)]]
def mm_r17 : mm_R := ((yX2_fillCups, cX2_fillCups, 8, (some .int), 2, false, [(3, 234), (1, 6), (0, 29)], (3, 235)),
   RX2, mm_t17, [(18, 0, 2, 2, 2, [(2, 6)]),
    (25, 0, 2, 4, 2, [(2, 10)]),
    (31, 0, 2, 11, 2, [(2, 24)]),
    (53, 0, 2, 8, 0, [(2, 19)]),
    (56, 0, 2, 9, 0, [(2, 21)]),
    (113, 0, 4, 6, 0, [(1, 80)]),
    (116, 1, 23, 2, 0, [(3, 236)]),
    (120, 0, 6, 2, 2, [(1, 164)]),
    (123, 1, 18, 2, 0, [(3, 237)]),
    (127, 0, 4, 7, 2, [(1, 84)])])
-- 18: "RainOrgan$Flow" "fillCup"
def mm_t18 : mm_T := [[(0, .iload_n 2, 1), (1, .tableswitch 121 0 4 #[35, 57, 73, 87, 101], 35)],
   [(36, .aload_n 0, 1), (37, .dup, 1), (38, .getfield 50, 3), (41, .iload 4, 2), (43, .iadd, 1), (44, .putfield 50, 3), (47, .iload 4, 2), (49, .ifCond .le 7, 3), (52, .iconst 1, 1), (53, .goto 4, 3), (56, .iconst 0, 1), (57, .ireturn, 1), (58, .aload_n 0, 1), (59, .iload_n 3, 1), (60, .aload_n 1, 1), (61, .getfield 130, 3)],
   [(64, .iload_n 3, 1), (65, .iaload, 1), (66, .iload 4, 2), (68, .bipush 20, 2), (70, .invokevirtual 133, 3), (73, .ireturn, 1), (74, .aload_n 0, 1), (75, .iload_n 3, 1), (76, .aload_n 1, 1), (77, .getfield 130, 3), (80, .iload_n 3, 1), (81, .iaload, 1), (82, .iload 4, 2), (84, .invokevirtual 137, 3), (87, .ireturn, 1), (88, .aload_n 0, 1), (89, .iload_n 3, 1), (90, .aload_n 1, 1), (91, .getfield 130, 3), (94, .iload_n 3, 1), (95, .iaload, 1)],
   [(96, .iload 4, 2), (98, .invokevirtual 141, 3), (101, .ireturn, 1), (102, .aload_n 0, 1), (103, .iload_n 3, 1), (104, .aload_n 1, 1), (105, .getfield 130, 3), (108, .iload_n 3, 1), (109, .iaload, 1), (110, .iload 4, 2), (112, .aload_n 1, 1), (113, .getfield 144, 3), (116, .iload_n 3, 1), (117, .iaload, 1), (118, .invokevirtual 133, 3), (121, .ireturn, 1), (122, .aload_n 0, 1), (123, .dup, 1), (124, .getfield 50, 3), (127, .iload 4, 2)],
   [(129, .iadd, 1), (130, .putfield 50, 3), (133, .iconst 0, 1), (134, .ireturn, 1)]]
def mm_r18 : mm_R := ((yX2_fillCup, cX2_fillCup, 5, (some .int), 4, false, [(3, 239), (1, 6), (0, 30)], (4, 0)),
   RX2, mm_t18, [(50, 0, 2, 7, 0, [(2, 16)]),
    (130, 0, 4, 8, 2, [(1, 88)]),
    (133, 1, 19, 2, 0, [(4, 1)]),
    (137, 1, 20, 2, 0, [(4, 5)]),
    (141, 1, 21, 2, 0, [(4, 9)]),
    (144, 0, 4, 9, 2, [(1, 92)])])
-- 19: "RainOrgan$Flow" "tip"
def mm_t19 : mm_T := [[(0, .aload_n 0, 1), (1, .getfield 9, 3), (4, .iload_n 1, 1), (5, .dup2, 1), (6, .iaload, 1), (7, .iload_n 3, 1), (8, .iadd, 1), (9, .iastore, 1), (10, .iload_n 2, 1), (11, .ifCond .le 14, 3), (14, .aload_n 0, 1), (15, .getfield 9, 3), (18, .iload_n 1, 1), (19, .iaload, 1), (20, .iload_n 2, 1), (21, .idiv, 1), (22, .goto 4, 3), (25, .iconst 0, 1), (26, .istore 5, 2), (28, .iload 5, 2), (30, .iload_n 2, 1), (31, .imul, 1)],
   [(32, .istore 6, 2), (34, .aload_n 0, 1), (35, .getfield 9, 3), (38, .iload_n 1, 1), (39, .dup2, 1), (40, .iaload, 1), (41, .iload 6, 2), (43, .isub, 1), (44, .iastore, 1), (45, .iload 4, 2), (47, .ifCond .lt 25, 3), (50, .iload 4, 2), (52, .bipush 8, 2), (54, .if_icmp .ge 18, 3), (57, .aload_n 0, 1), (58, .getfield 22, 3), (61, .iload 4, 2), (63, .dup2, 1)],
   [(64, .iaload, 1), (65, .iload 6, 2), (67, .iadd, 1), (68, .iastore, 1), (69, .goto 14, 3), (72, .aload_n 0, 1), (73, .dup, 1), (74, .getfield 50, 3), (77, .iload 6, 2), (79, .iadd, 1), (80, .putfield 50, 3), (83, .iload 5, 2), (85, .ireturn, 1)]]
def mm_r19 : mm_R := ((yX2_tip, cX2_tip, 7, (some .int), 4, false, [(4, 3), (1, 6), (0, 31)], (4, 4)),
   RX2, mm_t19, [(9, 0, 2, 0, 2, [(2, 3)]),
    (22, 0, 2, 3, 2, [(2, 8)]),
    (50, 0, 2, 7, 0, [(2, 16)])])
-- 20: "RainOrgan$Flow" "leak"
def mm_t20 : mm_T := [[(0, .aload_n 0, 1), (1, .getfield 9, 3), (4, .iload_n 1, 1), (5, .dup2, 1), (6, .iaload, 1), (7, .iload_n 3, 1), (8, .iadd, 1), (9, .iastore, 1), (10, .aload_n 0, 1), (11, .getfield 9, 3), (14, .iload_n 1, 1), (15, .iaload, 1), (16, .iload_n 2, 1), (17, .if_icmp .lt 27, 3), (20, .aload_n 0, 1), (21, .dup, 1), (22, .getfield 50, 3), (25, .aload_n 0, 1), (26, .getfield 9, 3), (29, .iload_n 1, 1), (30, .iaload, 1), (31, .iadd, 1)],
   [(32, .putfield 50, 3), (35, .aload_n 0, 1), (36, .getfield 9, 3), (39, .iload_n 1, 1), (40, .iconst 0, 1), (41, .iastore, 1), (42, .iconst 1, 1), (43, .ireturn, 1), (44, .aload_n 0, 1), (45, .getfield 9, 3), (48, .iload_n 1, 1), (49, .iaload, 1), (50, .ifCond .le 23, 3), (53, .aload_n 0, 1), (54, .dup, 1), (55, .getfield 50, 3), (58, .iconst 1, 1), (59, .iadd, 1), (60, .putfield 50, 3), (63, .aload_n 0, 1)],
   [(64, .getfield 9, 3), (67, .iload_n 1, 1), (68, .dup2, 1), (69, .iaload, 1), (70, .iconst 1, 1), (71, .isub, 1), (72, .iastore, 1), (73, .iconst 0, 1), (74, .ireturn, 1)]]
def mm_r20 : mm_R := ((yX2_leak, cX2_leak, 4, (some .int), 3, false, [(4, 7), (1, 6), (0, 32)], (4, 8)),
   RX2, mm_t20, [(9, 0, 2, 0, 2, [(2, 3)]),
    (50, 0, 2, 7, 0, [(2, 16)])])
-- 21: "RainOrgan$Flow" "countEach"
def mm_t21 : mm_T := [[(0, .aload_n 0, 1), (1, .dup, 1), (2, .getfield 50, 3), (5, .iload_n 3, 1), (6, .iadd, 1), (7, .putfield 50, 3), (10, .aload_n 0, 1), (11, .getfield 15, 3), (14, .iload_n 1, 1), (15, .dup2, 1), (16, .iaload, 1), (17, .iload_n 3, 1), (18, .iadd, 1), (19, .iastore, 1), (20, .iload_n 2, 1), (21, .ifCond .le 14, 3), (24, .aload_n 0, 1), (25, .getfield 15, 3), (28, .iload_n 1, 1), (29, .iaload, 1), (30, .iload_n 2, 1), (31, .idiv, 1)],
   [(32, .goto 4, 3), (35, .iconst 0, 1), (36, .istore 4, 2), (38, .aload_n 0, 1), (39, .getfield 15, 3), (42, .iload_n 1, 1), (43, .dup2, 1), (44, .iaload, 1), (45, .iload 4, 2), (47, .iload_n 2, 1), (48, .imul, 1), (49, .isub, 1), (50, .iastore, 1), (51, .iload 4, 2), (53, .ireturn, 1)]]
def mm_r21 : mm_R := ((yX2_countEach, cX2_countEach, 5, (some .int), 3, false, [(4, 11), (1, 6), (0, 33)], (4, 12)),
   RX2, mm_t21, [(15, 0, 2, 1, 2, [(2, 5)]),
    (50, 0, 2, 7, 0, [(2, 16)])])
-- 22: "RainOrgan$Flow" "emptyCup"
def mm_t22 : mm_T := [[(0, .aload_n 0, 1), (1, .dup, 1), (2, .getfield 50, 3), (5, .aload_n 0, 1), (6, .getfield 9, 3), (9, .iload_n 1, 1), (10, .iaload, 1), (11, .iadd, 1), (12, .putfield 50, 3), (15, .aload_n 0, 1), (16, .getfield 9, 3), (19, .iload_n 1, 1), (20, .iconst 0, 1), (21, .iastore, 1), (22, .aload_n 0, 1), (23, .getfield 15, 3), (26, .iload_n 1, 1), (27, .iconst 0, 1), (28, .iastore, 1), (29, .return_, 1)]]
def mm_r22 : mm_R := ((yX2_emptyCup, cX2_emptyCup, 2, none, 1, false, [(3, 183), (1, 6), (3, 184)], (3, 185)),
   RX2, mm_t22, [(9, 0, 2, 0, 2, [(2, 3)]),
    (15, 0, 2, 1, 2, [(2, 5)]),
    (50, 0, 2, 7, 0, [(2, 16)])])
-- 23: "RainOrgan$Flow" "isBroken"
def mm_t23 : mm_T := [[(0, .aload_n 1, 1), (1, .getfield 147, 3), (4, .ifCond .le 22, 3), (7, .aload_n 0, 1), (8, .getfield 18, 3), (11, .iload_n 2, 1), (12, .laload, 1), (13, .aload_n 1, 1), (14, .getfield 147, 3), (17, .i2l, 1), (18, .lcmp, 1), (19, .ifCond .lt 7, 3), (22, .iconst 1, 1), (23, .goto 4, 3), (26, .iconst 0, 1), (27, .ireturn, 1)]]
def mm_r23 : mm_R := ((yX2_isBroken, cX2_isBroken, 3, (some .boolean), 2, false, [(3, 167), (1, 6), (3, 168)], (3, 169)),
   RX2, mm_t23, [(18, 0, 2, 2, 2, [(2, 6)]),
    (147, 0, 4, 15, 0, [(1, 112)])])
-- 24: "RainOrgan$Flow" "brokenSpouts"
def mm_t24 : mm_T := [[(0, .iconst 0, 1), (1, .istore_n 2, 1), (2, .iconst 0, 1), (3, .istore_n 3, 1), (4, .iload_n 3, 1), (5, .aload_n 1, 1), (6, .getfield 113, 3), (9, .if_icmp .ge 28, 3), (12, .iload_n 2, 1), (13, .aload_n 0, 1), (14, .aload_n 1, 1), (15, .iload_n 3, 1), (16, .invokevirtual 116, 3), (19, .ifCond .eq 9, 3), (22, .iconst 1, 1), (23, .iload_n 3, 1), (24, .ishl, 1), (25, .goto 4, 3), (28, .iconst 0, 1), (29, .ior, 1), (30, .istore_n 2, 1), (31, .iinc 3 1, 3)],
   [(34, .goto (-30), 3), (37, .iload_n 2, 1), (38, .ireturn, 1)]]
def mm_r24 : mm_R := ((yX2_brokenSpouts, cX2_brokenSpouts, 4, (some .int), 1, false, [(4, 55), (1, 6), (4, 56)], (4, 57)),
   RX2, mm_t24, [(113, 0, 4, 6, 0, [(1, 80)]),
    (116, 1, 23, 2, 0, [(3, 236)])])
-- 25: "RainOrgan$Image" "<init>"
def mm_t25 : mm_T := [[(0, .aload_n 0, 1), (1, .invokespecial 1, 3), (4, .aload_n 0, 1), (5, .new 7, 3), (8, .dup, 1), (9, .invokespecial 9, 3), (12, .putfield 10, 3), (15, .aload_n 0, 1), (16, .new 16, 3), (19, .dup, 1), (20, .invokespecial 18, 3), (23, .putfield 19, 3), (26, .return_, 1)]]
def mm_r25 : mm_R := ((yX3_init, cX3_init, 1, none, 0, false, [(2, 117), (1, 9)], (2, 118)),
   RX3, mm_t25, [(1, 6, 0, 0, 0, [(2, 119), (1, 25), (1, 26)]),
    (7, 7, 6, 0, 0, [(2, 120), (1, 149), (1, 5)]),
    (9, 4, 52, 0, 11, []),
    (10, 0, 3, 0, 1, [(2, 124)]),
    (16, 7, 2, 0, 0, [(2, 122), (1, 238), (1, 6)]),
    (18, 4, 9, 0, 12, []),
    (19, 0, 3, 1, 1, [(2, 126)])])
-- 26: "RainOrgan$Plan" "<init>"
def mm_t26 : mm_T := [[(0, .aload_n 0, 1), (1, .invokespecial 3, 3), (4, .aload_n 0, 1), (5, .iconst 4, 1), (6, .newarray .int, 2), (8, .putfield 9, 3), (11, .aload_n 0, 1), (12, .iconst 4, 1), (13, .newarray .int, 2), (15, .putfield 15, 3), (18, .aload_n 0, 1), (19, .iconst 5, 1), (20, .newarray .int, 2), (22, .putfield 18, 3), (25, .aload_n 0, 1), (26, .iconst 5, 1), (27, .newarray .int, 2), (29, .putfield 21, 3)],
   [(32, .aload_n 0, 1), (33, .bipush 8, 2), (35, .newarray .int, 2), (37, .putfield 24, 3), (40, .aload_n 0, 1), (41, .bipush 8, 2), (43, .newarray .int, 2), (45, .putfield 27, 3), (48, .aload_n 0, 1), (49, .bipush 8, 2), (51, .newarray .int, 2), (53, .putfield 30, 3), (56, .aload_n 0, 1), (57, .iconst 4, 1), (58, .newarray .int, 2), (60, .putfield 33, 3), (63, .aload_n 0, 1)],
   [(64, .iconst 4, 1), (65, .newarray .int, 2), (67, .putfield 36, 3), (70, .aload_n 0, 1), (71, .iconst 4, 1), (72, .newarray .int, 2), (74, .putfield 39, 3), (77, .return_, 1)]]
def mm_r26 : mm_R := ((yX4_init, cX4_init, 1, none, 0, false, [(1, 53), (1, 4)], (1, 54)),
   RX4, mm_t26, [(3, 6, 0, 0, 0, [(1, 55), (1, 25), (1, 26)]),
    (9, 0, 4, 1, 1, [(1, 60)]),
    (15, 0, 4, 2, 1, [(1, 63)]),
    (18, 0, 4, 4, 1, [(1, 70)]),
    (21, 0, 4, 5, 1, [(1, 74)]),
    (24, 0, 4, 7, 1, [(1, 82)]),
    (27, 0, 4, 8, 1, [(1, 86)]),
    (30, 0, 4, 9, 1, [(1, 90)]),
    (33, 0, 4, 12, 1, [(1, 101)]),
    (36, 0, 4, 13, 1, [(1, 104)]),
    (39, 0, 4, 14, 1, [(1, 107)])])
-- 27: "RainOrgan$Plan" "forget"
def mm_t27 : mm_T := [[(0, .aload_n 0, 1), (1, .iconst 0, 1), (2, .putfield 42, 3), (5, .aload_n 0, 1), (6, .iconst 0, 1), (7, .putfield 46, 3), (10, .aload_n 0, 1), (11, .iconst 0, 1), (12, .putfield 49, 3), (15, .aload_n 0, 1), (16, .iconst 0, 1), (17, .putfield 52, 3), (20, .aload_n 0, 1), (21, .iconst 0, 1), (22, .putfield 55, 3), (25, .aload_n 0, 1), (26, .iconst 0, 1), (27, .putfield 58, 3), (30, .return_, 1)]]
def mm_r27 : mm_R := ((yX4_forget, cX4_forget, 1, none, 0, false, [(2, 205), (1, 4), (2, 206)], (2, 207)),
   RX4, mm_t27, [(42, 0, 4, 0, 0, [(1, 56)]),
    (46, 0, 4, 3, 0, [(1, 66)]),
    (49, 0, 4, 6, 0, [(1, 78)]),
    (52, 0, 4, 10, 0, [(1, 94)]),
    (55, 0, 4, 11, 0, [(1, 97)]),
    (58, 0, 4, 15, 0, [(1, 110)])])
-- 28: "RainOrgan$Reader" "<init>"
def mm_t28 : mm_T := [[(0, .aload_n 0, 1), (1, .invokespecial 3, 3), (4, .aload_n 0, 1), (5, .new 9, 3), (8, .dup, 1), (9, .invokespecial 11, 3), (12, .putfield 12, 3), (15, .aload_n 0, 1), (16, .new 18, 3), (19, .dup, 1), (20, .invokespecial 20, 3), (23, .putfield 21, 3), (26, .aload_n 0, 1), (27, .new 25, 3), (30, .dup, 1), (31, .invokespecial 27, 3)],
   [(34, .putfield 28, 3), (37, .return_, 1)]]
def mm_r28 : mm_R := ((yX5_init, cX5_init, 1, none, 0, false, [(1, 30), (1, 2)], (1, 31)),
   RX5, mm_t28, [(3, 6, 0, 0, 0, [(1, 32), (1, 25), (1, 26)]),
    (9, 7, 8, 0, 0, [(1, 33), (1, 34), (1, 3)]),
    (11, 4, 62, 0, 1, []),
    (12, 0, 5, 0, 1, [(1, 197)]),
    (18, 7, 4, 0, 0, [(1, 50), (1, 51), (1, 4)]),
    (20, 4, 26, 0, 2, []),
    (21, 0, 5, 1, 0, [(1, 199)]),
    (25, 7, 6, 0, 0, [(1, 148), (1, 149), (1, 5)]),
    (27, 4, 52, 0, 3, []),
    (28, 0, 5, 2, 0, [(1, 201)])])
-- 29: "RainOrgan$Reader" "begin"
def mm_t29 : mm_T := [[(0, .aload_n 0, 1), (1, .getfield 21, 3), (4, .invokevirtual 32, 3), (7, .aload_n 0, 1), (8, .getfield 28, 3), (11, .invokevirtual 35, 3), (14, .aload_n 0, 1), (15, .iconst 0, 1), (16, .putfield 36, 3), (19, .aload_n 0, 1), (20, .iconst 0, 1), (21, .putfield 40, 3), (24, .aload_n 0, 1), (25, .iconst 0, 1), (26, .putfield 44, 3), (29, .aload_n 0, 1), (30, .iconst 0, 1), (31, .putfield 47, 3)],
   [(34, .return_, 1)]]
def mm_r29 : mm_R := ((yX5_begin, cX5_begin, 1, none, 0, false, [(2, 201), (1, 2), (2, 202)], (2, 203)),
   RX5, mm_t29, [(21, 0, 5, 1, 0, [(1, 199)]),
    (28, 0, 5, 2, 0, [(1, 201)]),
    (32, 1, 27, 4, 0, [(2, 204)]),
    (35, 1, 53, 6, 0, [(2, 208)]),
    (36, 0, 5, 5, 0, [(1, 207)]),
    (40, 0, 5, 3, 0, [(1, 203)]),
    (44, 0, 5, 4, 0, [(1, 205)]),
    (47, 0, 5, 6, 0, [(1, 208)])])
-- 30: "RainOrgan$Reader" "fail"
def mm_t30 : mm_T := [[(0, .aload_n 0, 1), (1, .iload_n 1, 1), (2, .putfield 40, 3), (5, .aload_n 0, 1), (6, .aload_n 0, 1), (7, .getfield 50, 3), (10, .putfield 44, 3), (13, .iconst 0, 1), (14, .ireturn, 1)]]
def mm_r30 : mm_R := ((yX5_fail, cX5_fail, 2, (some .boolean), 1, false, [(2, 229), (1, 2), (0, 2)], (2, 230)),
   RX5, mm_t30, [(40, 0, 5, 3, 0, [(1, 203)]),
    (44, 0, 5, 4, 0, [(1, 205)]),
    (50, 0, 5, 7, 0, [(1, 209)])])
-- 31: "RainOrgan$Reader" "nextToken"
def mm_t31 : mm_T := [[(0, .aload_n 0, 1), (1, .getfield 47, 3), (4, .aload_n 0, 1), (5, .getfield 12, 3), (8, .getfield 53, 3), (11, .if_icmp .ge 33, 3), (14, .aload_n 0, 1), (15, .getfield 12, 3), (18, .getfield 56, 3), (21, .aload_n 0, 1), (22, .getfield 47, 3), (25, .baload, 1), (26, .bipush 32, 2), (28, .if_icmp .ne 16, 3), (31, .aload_n 0, 1)],
   [(32, .dup, 1), (33, .getfield 47, 3), (36, .iconst 1, 1), (37, .iadd, 1), (38, .putfield 47, 3), (41, .goto (-41), 3), (44, .aload_n 0, 1), (45, .aload_n 0, 1), (46, .getfield 47, 3), (49, .putfield 50, 3), (52, .aload_n 0, 1), (53, .aload_n 0, 1), (54, .aload_n 0, 1), (55, .getfield 47, 3), (58, .invokevirtual 60, 3), (61, .putfield 64, 3)],
   [(64, .aload_n 0, 1), (65, .getfield 64, 3), (68, .iconst 2, 1), (69, .if_icmp .eq 11, 3), (72, .aload_n 0, 1), (73, .getfield 64, 3), (76, .iconst 3, 1), (77, .if_icmp .ne 45, 3), (80, .aload_n 0, 1), (81, .getfield 47, 3), (84, .aload_n 0, 1), (85, .getfield 12, 3), (88, .getfield 53, 3), (91, .if_icmp .ge 49, 3), (94, .aload_n 0, 1), (95, .aload_n 0, 1)],
   [(96, .getfield 47, 3), (99, .invokevirtual 60, 3), (102, .aload_n 0, 1), (103, .getfield 64, 3), (106, .if_icmp .ne 34, 3), (109, .aload_n 0, 1), (110, .dup, 1), (111, .getfield 47, 3), (114, .iconst 1, 1), (115, .iadd, 1), (116, .putfield 47, 3), (119, .goto (-39), 3), (122, .aload_n 0, 1), (123, .getfield 64, 3), (126, .iconst 4, 1), (127, .if_icmp .ne 13, 3)],
   [(130, .aload_n 0, 1), (131, .dup, 1), (132, .getfield 47, 3), (135, .iconst 1, 1), (136, .iadd, 1), (137, .putfield 47, 3), (140, .aload_n 0, 1), (141, .getfield 64, 3), (144, .iconst 3, 1), (145, .if_icmp .ne 20, 3), (148, .aload_n 0, 1), (149, .getfield 47, 3), (152, .aload_n 0, 1), (153, .getfield 50, 3), (156, .isub, 1), (157, .iconst 3, 1), (158, .if_icmp .le 7, 3)],
   [(161, .iconst 1, 1), (162, .goto 4, 3), (165, .iconst 0, 1), (166, .istore_n 1, 1), (167, .aload_n 0, 1), (168, .getfield 64, 3), (171, .ifCond .eq 7, 3), (174, .iload_n 1, 1), (175, .ifCond .eq 11, 3), (178, .aload_n 0, 1), (179, .iconst 1, 1), (180, .invokevirtual 67, 3), (183, .ifCond .eq 7, 3), (186, .iconst 1, 1), (187, .goto 4, 3), (190, .iconst 0, 1), (191, .ireturn, 1)]]
def mm_r31 : mm_R := ((yX5_nextToken, cX5_nextToken, 2, (some .boolean), 0, false, [(2, 221), (1, 2), (0, 0)], (2, 222)),
   RX5, mm_t31, [(12, 0, 5, 0, 2, [(1, 197)]),
    (47, 0, 5, 6, 0, [(1, 208)]),
    (50, 0, 5, 7, 0, [(1, 209)]),
    (53, 0, 8, 1, 0, [(1, 43)]),
    (56, 0, 8, 0, 2, [(1, 41)]),
    (60, 1, 32, 5, 0, [(2, 223)]),
    (64, 0, 5, 8, 0, [(1, 210)]),
    (67, 1, 30, 5, 0, [(2, 227)])])
-- 32: "RainOrgan$Reader" "kindAt"
def mm_t32 : mm_T := [[(0, .iload_n 1, 1), (1, .aload_n 0, 1), (2, .getfield 12, 3), (5, .getfield 53, 3), (8, .if_icmp .lt 5, 3), (11, .iconst 1, 1), (12, .ireturn, 1), (13, .aload_n 0, 1), (14, .getfield 12, 3), (17, .getfield 56, 3), (20, .iload_n 1, 1), (21, .baload, 1), (22, .istore_n 2, 1), (23, .iload_n 2, 1), (24, .bipush 97, 2), (26, .if_icmp .lt 11, 3), (29, .iload_n 2, 1), (30, .bipush 122, 2)],
   [(32, .if_icmp .gt 5, 3), (35, .iconst 2, 1), (36, .ireturn, 1), (37, .iload_n 2, 1), (38, .bipush 48, 2), (40, .if_icmp .lt 11, 3), (43, .iload_n 2, 1), (44, .bipush 57, 2), (46, .if_icmp .gt 5, 3), (49, .iconst 3, 1), (50, .ireturn, 1), (51, .iload_n 2, 1), (52, .bipush 59, 2), (54, .if_icmp .ne 7, 3), (57, .iconst 4, 1), (58, .goto 4, 3), (61, .iconst 0, 1), (62, .ireturn, 1)]]
def mm_r32 : mm_R := ((yX5_kindAt, cX5_kindAt, 3, (some .int), 1, false, [(2, 225), (1, 2), (0, 1)], (2, 226)),
   RX5, mm_t32, [(12, 0, 5, 0, 2, [(1, 197)]),
    (53, 0, 8, 1, 0, [(1, 43)]),
    (56, 0, 8, 0, 2, [(1, 41)])])
-- 33: "RainOrgan$Reader" "numberRead"
def mm_t33 : mm_T := [[(0, .iconst 0, 1), (1, .istore_n 1, 1), (2, .aload_n 0, 1), (3, .getfield 50, 3), (6, .istore_n 2, 1), (7, .iload_n 2, 1), (8, .aload_n 0, 1), (9, .getfield 47, 3), (12, .if_icmp .ge 27, 3), (15, .iload_n 1, 1), (16, .bipush 10, 2), (18, .imul, 1), (19, .aload_n 0, 1), (20, .getfield 12, 3), (23, .getfield 56, 3), (26, .iload_n 2, 1), (27, .baload, 1), (28, .iadd, 1), (29, .bipush 48, 2), (31, .isub, 1)],
   [(32, .istore_n 1, 1), (33, .iinc 2 1, 3), (36, .goto (-29), 3), (39, .iload_n 1, 1), (40, .ireturn, 1)]]
def mm_r33 : mm_R := ((yX5_numberRead, cX5_numberRead, 3, (some .int), 0, false, [(3, 62), (1, 2), (0, 8)], (3, 63)),
   RX5, mm_t33, [(12, 0, 5, 0, 2, [(1, 197)]),
    (47, 0, 5, 6, 0, [(1, 208)]),
    (50, 0, 5, 7, 0, [(1, 209)]),
    (56, 0, 8, 0, 2, [(1, 41)])])
-- 34: "RainOrgan$Reader" "isNamed"
def mm_t34 : mm_T := [[(0, .aload_n 0, 1), (1, .getfield 47, 3), (4, .aload_n 0, 1), (5, .getfield 50, 3), (8, .isub, 1), (9, .aload_n 1, 1), (10, .invokevirtual 71, 3), (13, .if_icmp .eq 5, 3), (16, .iconst 0, 1), (17, .ireturn, 1), (18, .iconst 0, 1), (19, .istore_n 2, 1), (20, .iload_n 2, 1), (21, .aload_n 1, 1), (22, .invokevirtual 71, 3), (25, .if_icmp .ge 33, 3), (28, .aload_n 0, 1), (29, .getfield 12, 3)],
   [(32, .getfield 56, 3), (35, .aload_n 0, 1), (36, .getfield 50, 3), (39, .iload_n 2, 1), (40, .iadd, 1), (41, .baload, 1), (42, .aload_n 1, 1), (43, .iload_n 2, 1), (44, .invokevirtual 76, 3), (47, .if_icmp .eq 5, 3), (50, .iconst 0, 1), (51, .ireturn, 1), (52, .iinc 2 1, 3), (55, .goto (-35), 3), (58, .iconst 1, 1), (59, .ireturn, 1)]]
def mm_r34 : mm_R := ((yX5_isNamed, cX5_isNamed, 3, (some .boolean), 1, false, [(3, 2), (1, 2), (0, 5)], (3, 3)),
   RX5, mm_t34, [(12, 0, 5, 0, 2, [(1, 197)]),
    (47, 0, 5, 6, 0, [(1, 208)]),
    (50, 0, 5, 7, 0, [(1, 209)]),
    (56, 0, 8, 0, 2, [(1, 41)]),
    (71, 1, 193, 1000, 0, [(3, 4)]),
    (76, 1, 194, 1000, 0, [(3, 14)])])
-- 35: "RainOrgan$Reader" "needs"
def mm_t35 : mm_T := [[(0, .aload_n 0, 1), (1, .invokevirtual 80, 3), (4, .ifCond .eq 23, 3), (7, .aload_n 0, 1), (8, .getfield 64, 3), (11, .iload_n 1, 1), (12, .if_icmp .eq 11, 3), (15, .aload_n 0, 1), (16, .iconst 2, 1), (17, .invokevirtual 67, 3), (20, .ifCond .eq 7, 3), (23, .iconst 1, 1), (24, .goto 4, 3), (27, .iconst 0, 1), (28, .ireturn, 1)]]
def mm_r35 : mm_R := ((yX5_needs, cX5_needs, 2, (some .boolean), 1, false, [(3, 66), (1, 2), (0, 9)], (3, 67)),
   RX5, mm_t35, [(64, 0, 5, 8, 0, [(1, 210)]),
    (67, 1, 30, 5, 0, [(2, 227)]),
    (80, 1, 31, 5, 0, [(2, 219)])])
-- 36: "RainOrgan$Reader" "needsNumber"
def mm_t36 : mm_T := [[(0, .aload_n 0, 1), (1, .invokevirtual 80, 3), (4, .ifCond .ne 5, 3), (7, .iconst 0, 1), (8, .ireturn, 1), (9, .aload_n 0, 1), (10, .getfield 64, 3), (13, .iconst 3, 1), (14, .if_icmp .eq 9, 3), (17, .aload_n 0, 1), (18, .iconst 2, 1), (19, .invokevirtual 67, 3), (22, .ireturn, 1), (23, .aload_n 0, 1), (24, .aload_n 0, 1), (25, .invokevirtual 84, 3), (28, .putfield 87, 3), (31, .aload_n 0, 1)],
   [(32, .getfield 87, 3), (35, .iload_n 1, 1), (36, .if_icmp .lt 11, 3), (39, .aload_n 0, 1), (40, .getfield 87, 3), (43, .iload_n 2, 1), (44, .if_icmp .le 11, 3), (47, .aload_n 0, 1), (48, .iconst 3, 1), (49, .invokevirtual 67, 3), (52, .ifCond .eq 7, 3), (55, .iconst 1, 1), (56, .goto 4, 3), (59, .iconst 0, 1), (60, .ireturn, 1)]]
def mm_r36 : mm_R := ((yX5_needsNumber, cX5_needsNumber, 3, (some .boolean), 2, false, [(3, 58), (1, 2), (0, 7)], (3, 59)),
   RX5, mm_t36, [(64, 0, 5, 8, 0, [(1, 210)]),
    (67, 1, 30, 5, 0, [(2, 227)]),
    (80, 1, 31, 5, 0, [(2, 219)]),
    (84, 1, 33, 5, 0, [(3, 60)]),
    (87, 0, 5, 9, 0, [(1, 211)])])
-- 37: "RainOrgan$Reader" "readLine"
def mm_t37 : mm_T := [[(0, .aload_n 0, 1), (1, .invokevirtual 80, 3), (4, .ifCond .ne 5, 3), (7, .iconst 0, 1), (8, .ireturn, 1), (9, .aload_n 0, 1), (10, .getfield 64, 3), (13, .iconst 1, 1), (14, .if_icmp .ne 19, 3), (17, .aload_n 0, 1), (18, .invokevirtual 90, 3), (21, .ifCond .ne 10, 3), (24, .aload_n 0, 1), (25, .bipush 6, 2), (27, .invokevirtual 67, 3), (30, .pop, 1), (31, .iconst 0, 1)],
   [(32, .ireturn, 1), (33, .aload_n 0, 1), (34, .getfield 64, 3), (37, .iconst 2, 1), (38, .if_icmp .eq 9, 3), (41, .aload_n 0, 1), (42, .iconst 2, 1), (43, .invokevirtual 67, 3), (46, .ireturn, 1), (47, .aload_n 0, 1), (48, .ldc 93, 2), (50, .invokevirtual 95, 3), (53, .ifCond .eq 8, 3), (56, .aload_n 0, 1), (57, .invokevirtual 99, 3), (60, .ireturn, 1), (61, .aload_n 0, 1), (62, .ldc 102, 2)],
   [(64, .invokevirtual 95, 3), (67, .ifCond .eq 8, 3), (70, .aload_n 0, 1), (71, .invokevirtual 104, 3), (74, .ireturn, 1), (75, .aload_n 0, 1), (76, .ldc 107, 2), (78, .invokevirtual 95, 3), (81, .ifCond .eq 8, 3), (84, .aload_n 0, 1), (85, .invokevirtual 109, 3), (88, .ireturn, 1), (89, .aload_n 0, 1), (90, .ldc 112, 2), (92, .invokevirtual 95, 3), (95, .ifCond .eq 8, 3)],
   [(98, .aload_n 0, 1), (99, .invokevirtual 114, 3), (102, .ireturn, 1), (103, .aload_n 0, 1), (104, .ldc 117, 2), (106, .invokevirtual 95, 3), (109, .ifCond .eq 8, 3), (112, .aload_n 0, 1), (113, .invokevirtual 119, 3), (116, .ireturn, 1), (117, .aload_n 0, 1), (118, .ldc 122, 2), (120, .invokevirtual 95, 3), (123, .ifCond .eq 8, 3), (126, .aload_n 0, 1), (127, .invokevirtual 124, 3)],
   [(130, .ireturn, 1), (131, .aload_n 0, 1), (132, .ldc 127, 2), (134, .invokevirtual 95, 3), (137, .ifCond .eq 8, 3), (140, .aload_n 0, 1), (141, .invokevirtual 129, 3), (144, .ireturn, 1), (145, .aload_n 0, 1), (146, .iconst 2, 1), (147, .invokevirtual 67, 3), (150, .ireturn, 1)]]
def mm_r37 : mm_R := ((yX5_readLine, cX5_readLine, 1, (some .boolean), 0, false, [(2, 216), (1, 2), (2, 217)], (2, 218)),
   RX5, mm_t37, [(64, 0, 5, 8, 0, [(1, 210)]),
    (67, 1, 30, 5, 0, [(2, 227)]),
    (80, 1, 31, 5, 0, [(2, 219)]),
    (90, 1, 50, 5, 0, [(2, 231)]),
    (93, 13, 0, 0, 0, []),
    (95, 1, 34, 5, 0, [(3, 0)]),
    (99, 1, 38, 5, 0, [(3, 52)]),
    (102, 13, 1, 0, 0, []),
    (104, 1, 39, 5, 0, [(3, 69)]),
    (107, 13, 3, 0, 0, []),
    (109, 1, 41, 5, 0, [(3, 80)]),
    (112, 13, 11, 0, 0, []),
    (114, 1, 44, 5, 0, [(3, 102)]),
    (117, 13, 12, 0, 0, []),
    (119, 1, 45, 5, 0, [(3, 115)]),
    (122, 13, 13, 0, 0, []),
    (124, 1, 48, 5, 0, [(3, 120)]),
    (127, 13, 14, 0, 0, []),
    (129, 1, 49, 5, 0, [(3, 125)])])
-- 38: "RainOrgan$Reader" "readRoof"
def mm_t38 : mm_T := [[(0, .aload_n 0, 1), (1, .getfield 21, 3), (4, .getfield 132, 3), (7, .istore_n 1, 1), (8, .iload_n 1, 1), (9, .iconst 4, 1), (10, .if_icmp .lt 9, 3), (13, .aload_n 0, 1), (14, .iconst 5, 1), (15, .invokevirtual 67, 3), (18, .ireturn, 1), (19, .aload_n 0, 1), (20, .iconst 1, 1), (21, .bipush 9, 2), (23, .invokevirtual 135, 3), (26, .ifCond .ne 5, 3), (29, .iconst 0, 1), (30, .ireturn, 1), (31, .aload_n 0, 1)],
   [(32, .getfield 21, 3), (35, .getfield 139, 3), (38, .iload_n 1, 1), (39, .aload_n 0, 1), (40, .getfield 87, 3), (43, .iastore, 1), (44, .aload_n 0, 1), (45, .iconst 0, 1), (46, .iconst 4, 1), (47, .invokevirtual 135, 3), (50, .ifCond .ne 5, 3), (53, .iconst 0, 1), (54, .ireturn, 1), (55, .aload_n 0, 1), (56, .getfield 21, 3), (59, .getfield 143, 3), (62, .iload_n 1, 1), (63, .aload_n 0, 1)],
   [(64, .getfield 87, 3), (67, .iastore, 1), (68, .aload_n 0, 1), (69, .getfield 21, 3), (72, .dup, 1), (73, .getfield 132, 3), (76, .iconst 1, 1), (77, .iadd, 1), (78, .putfield 132, 3), (81, .aload_n 0, 1), (82, .iconst 4, 1), (83, .invokevirtual 146, 3), (86, .ireturn, 1)]]
def mm_r38 : mm_R := ((yX5_readRoof, cX5_readRoof, 2, (some .boolean), 0, false, [(3, 54), (1, 2), (0, 6)], (3, 55)),
   RX5, mm_t38, [(21, 0, 5, 1, 0, [(1, 199)]),
    (67, 1, 30, 5, 0, [(2, 227)]),
    (87, 0, 5, 9, 0, [(1, 211)]),
    (132, 0, 4, 0, 0, [(1, 59)]),
    (135, 1, 36, 5, 0, [(3, 56)]),
    (139, 0, 4, 1, 2, [(1, 62)]),
    (143, 0, 4, 2, 2, [(1, 65)]),
    (146, 1, 35, 5, 0, [(3, 64)])])
-- 39: "RainOrgan$Reader" "readPeg"
def mm_t39 : mm_T := [[(0, .aload_n 0, 1), (1, .getfield 21, 3), (4, .getfield 149, 3), (7, .istore_n 1, 1), (8, .iload_n 1, 1), (9, .iconst 5, 1), (10, .if_icmp .lt 9, 3), (13, .aload_n 0, 1), (14, .iconst 5, 1), (15, .invokevirtual 67, 3), (18, .ireturn, 1), (19, .aload_n 0, 1), (20, .iload_n 1, 1), (21, .invokevirtual 152, 3), (24, .ifCond .ne 5, 3), (27, .iconst 0, 1), (28, .ireturn, 1), (29, .aload_n 0, 1), (30, .getfield 21, 3)],
   [(33, .getfield 155, 3), (36, .iload_n 1, 1), (37, .aload_n 0, 1), (38, .getfield 87, 3), (41, .iastore, 1), (42, .aload_n 0, 1), (43, .iload_n 1, 1), (44, .invokevirtual 152, 3), (47, .ifCond .ne 5, 3), (50, .iconst 0, 1), (51, .ireturn, 1), (52, .aload_n 0, 1), (53, .getfield 21, 3), (56, .getfield 158, 3), (59, .iload_n 1, 1), (60, .aload_n 0, 1), (61, .getfield 87, 3)],
   [(64, .iastore, 1), (65, .aload_n 0, 1), (66, .getfield 21, 3), (69, .dup, 1), (70, .getfield 149, 3), (73, .iconst 1, 1), (74, .iadd, 1), (75, .putfield 149, 3), (78, .aload_n 0, 1), (79, .iconst 4, 1), (80, .invokevirtual 146, 3), (83, .ireturn, 1)]]
def mm_r39 : mm_R := ((yX5_readPeg, cX5_readPeg, 2, (some .boolean), 0, false, [(3, 71), (1, 2), (0, 10)], (3, 72)),
   RX5, mm_t39, [(21, 0, 5, 1, 0, [(1, 199)]),
    (67, 1, 30, 5, 0, [(2, 227)]),
    (87, 0, 5, 9, 0, [(1, 211)]),
    (146, 1, 35, 5, 0, [(3, 64)]),
    (149, 0, 4, 3, 0, [(1, 69)]),
    (152, 1, 40, 5, 0, [(3, 73)]),
    (155, 0, 4, 4, 2, [(1, 73)]),
    (158, 0, 4, 5, 2, [(1, 77)])])
-- 40: "RainOrgan$Reader" "readWay"
def mm_t40 : mm_T := [[(0, .aload_n 0, 1), (1, .iconst 2, 1), (2, .invokevirtual 146, 3), (5, .ifCond .ne 5, 3), (8, .iconst 0, 1), (9, .ireturn, 1), (10, .aload_n 0, 1), (11, .ldc 161, 2), (13, .invokevirtual 95, 3), (16, .ifCond .eq 12, 3), (19, .aload_n 0, 1), (20, .iload_n 1, 1), (21, .iconst 1, 1), (22, .iadd, 1), (23, .iconst 4, 1), (24, .invokevirtual 135, 3), (27, .ireturn, 1), (28, .aload_n 0, 1), (29, .ldc 107, 2), (31, .invokevirtual 95, 3)],
   [(34, .ifCond .eq 24, 3), (37, .aload_n 0, 1), (38, .iconst 0, 1), (39, .bipush 7, 2), (41, .invokevirtual 135, 3), (44, .istore_n 2, 1), (45, .aload_n 0, 1), (46, .dup, 1), (47, .getfield 87, 3), (50, .bipush 10, 2), (52, .iadd, 1), (53, .putfield 87, 3), (56, .iload_n 2, 1), (57, .ireturn, 1), (58, .aload_n 0, 1), (59, .ldc 163, 2), (61, .invokevirtual 95, 3)],
   [(64, .ifCond .eq 11, 3), (67, .aload_n 0, 1), (68, .bipush 20, 2), (70, .putfield 87, 3), (73, .iconst 1, 1), (74, .ireturn, 1), (75, .aload_n 0, 1), (76, .iconst 2, 1), (77, .invokevirtual 67, 3), (80, .ireturn, 1)]]
def mm_r40 : mm_R := ((yX5_readWay, cX5_readWay, 3, (some .boolean), 1, false, [(3, 75), (1, 2), (0, 11)], (3, 76)),
   RX5, mm_t40, [(67, 1, 30, 5, 0, [(2, 227)]),
    (87, 0, 5, 9, 0, [(1, 211)]),
    (95, 1, 34, 5, 0, [(3, 0)]),
    (107, 13, 3, 0, 0, []),
    (135, 1, 36, 5, 0, [(3, 56)]),
    (146, 1, 35, 5, 0, [(3, 64)]),
    (161, 13, 2, 0, 0, []),
    (163, 13, 4, 0, 0, [])])
-- 41: "RainOrgan$Reader" "readSpout"
def mm_t41 : mm_T := [[(0, .aload_n 0, 1), (1, .getfield 21, 3), (4, .getfield 165, 3), (7, .istore_n 1, 1), (8, .iload_n 1, 1), (9, .bipush 8, 2), (11, .if_icmp .lt 9, 3), (14, .aload_n 0, 1), (15, .iconst 5, 1), (16, .invokevirtual 67, 3), (19, .ireturn, 1), (20, .aload_n 0, 1), (21, .iconst 0, 1), (22, .bipush 7, 2), (24, .invokevirtual 135, 3), (27, .ifCond .ne 5, 3), (30, .iconst 0, 1), (31, .ireturn, 1)],
   [(32, .aload_n 0, 1), (33, .getfield 21, 3), (36, .getfield 168, 3), (39, .iload_n 1, 1), (40, .aload_n 0, 1), (41, .getfield 87, 3), (44, .iastore, 1), (45, .aload_n 0, 1), (46, .iload_n 1, 1), (47, .invokevirtual 171, 3), (50, .ifCond .ne 5, 3), (53, .iconst 0, 1), (54, .ireturn, 1), (55, .aload_n 0, 1), (56, .getfield 21, 3), (59, .dup, 1), (60, .getfield 165, 3), (63, .iconst 1, 1)],
   [(64, .iadd, 1), (65, .putfield 165, 3), (68, .aload_n 0, 1), (69, .iconst 4, 1), (70, .invokevirtual 146, 3), (73, .ireturn, 1)]]
def mm_r41 : mm_R := ((yX5_readSpout, cX5_readSpout, 2, (some .boolean), 0, false, [(3, 82), (1, 2), (0, 12)], (3, 83)),
   RX5, mm_t41, [(21, 0, 5, 1, 0, [(1, 199)]),
    (67, 1, 30, 5, 0, [(2, 227)]),
    (87, 0, 5, 9, 0, [(1, 211)]),
    (135, 1, 36, 5, 0, [(3, 56)]),
    (146, 1, 35, 5, 0, [(3, 64)]),
    (165, 0, 4, 6, 0, [(1, 81)]),
    (168, 0, 4, 7, 2, [(1, 85)]),
    (171, 1, 42, 5, 0, [(3, 84)])])
-- 42: "RainOrgan$Reader" "readCup"
def mm_t42 : mm_T := [[(0, .aload_n 0, 1), (1, .iconst 2, 1), (2, .invokevirtual 146, 3), (5, .ifCond .ne 5, 3), (8, .iconst 0, 1), (9, .ireturn, 1), (10, .aload_n 0, 1), (11, .invokevirtual 174, 3), (14, .istore_n 2, 1), (15, .iload_n 2, 1), (16, .bipush (-4), 2), (18, .if_icmp .ne 9, 3), (21, .aload_n 0, 1), (22, .iconst 2, 1), (23, .invokevirtual 67, 3), (26, .ireturn, 1), (27, .aload_n 0, 1), (28, .getfield 28, 3), (31, .getfield 177, 3)],
   [(34, .iload_n 1, 1), (35, .iload_n 2, 1), (36, .iastore, 1), (37, .iload_n 2, 1), (38, .invokestatic 180, 3), (41, .ifCond .ne 5, 3), (44, .iconst 1, 1), (45, .ireturn, 1), (46, .aload_n 0, 1), (47, .iconst 1, 1), (48, .bipush 30, 2), (50, .invokevirtual 135, 3), (53, .ifCond .ne 5, 3), (56, .iconst 0, 1), (57, .ireturn, 1), (58, .aload_n 0, 1), (59, .getfield 21, 3), (62, .getfield 183, 3)],
   [(65, .iload_n 1, 1), (66, .aload_n 0, 1), (67, .getfield 87, 3), (70, .iastore, 1), (71, .iload_n 2, 1), (72, .iconst 4, 1), (73, .if_icmp .eq 5, 3), (76, .iconst 1, 1), (77, .ireturn, 1), (78, .aload_n 0, 1), (79, .iconst 0, 1), (80, .bipush 7, 2), (82, .invokevirtual 135, 3), (85, .ifCond .ne 5, 3), (88, .iconst 0, 1), (89, .ireturn, 1), (90, .aload_n 0, 1), (91, .getfield 21, 3), (94, .getfield 186, 3)],
   [(97, .iload_n 1, 1), (98, .aload_n 0, 1), (99, .getfield 87, 3), (102, .iastore, 1), (103, .aload_n 0, 1), (104, .getfield 87, 3), (107, .iload_n 1, 1), (108, .if_icmp .ne 11, 3), (111, .aload_n 0, 1), (112, .iconst 3, 1), (113, .invokevirtual 67, 3), (116, .ifCond .eq 7, 3), (119, .iconst 1, 1), (120, .goto 4, 3), (123, .iconst 0, 1), (124, .ireturn, 1)]]
def mm_r42 : mm_R := ((yX5_readCup, cX5_readCup, 3, (some .boolean), 1, false, [(3, 86), (1, 2), (0, 13)], (3, 87)),
   RX5, mm_t42, [(21, 0, 5, 1, 0, [(1, 199)]),
    (28, 0, 5, 2, 0, [(1, 201)]),
    (67, 1, 30, 5, 0, [(2, 227)]),
    (87, 0, 5, 9, 0, [(1, 211)]),
    (135, 1, 36, 5, 0, [(3, 56)]),
    (146, 1, 35, 5, 0, [(3, 64)]),
    (174, 1, 43, 5, 0, [(3, 88)]),
    (177, 0, 6, 2, 2, [(1, 165)]),
    (180, 5, 110, 0, 14, []),
    (183, 0, 4, 8, 2, [(1, 89)]),
    (186, 0, 4, 9, 2, [(1, 93)])])
-- 43: "RainOrgan$Reader" "namedKind"
def mm_t43 : mm_T := [[(0, .aload_n 0, 1), (1, .ldc 189, 2), (3, .invokevirtual 95, 3), (6, .ifCond .eq 5, 3), (9, .iconst 0, 1), (10, .ireturn, 1), (11, .aload_n 0, 1), (12, .ldc 191, 2), (14, .invokevirtual 95, 3), (17, .ifCond .eq 5, 3), (20, .iconst 1, 1), (21, .ireturn, 1), (22, .aload_n 0, 1), (23, .ldc 193, 2), (25, .invokevirtual 95, 3), (28, .ifCond .eq 5, 3), (31, .iconst 2, 1)],
   [(32, .ireturn, 1), (33, .aload_n 0, 1), (34, .ldc 195, 2), (36, .invokevirtual 95, 3), (39, .ifCond .eq 5, 3), (42, .iconst 3, 1), (43, .ireturn, 1), (44, .aload_n 0, 1), (45, .ldc 197, 2), (47, .invokevirtual 95, 3), (50, .ifCond .eq 5, 3), (53, .iconst 4, 1), (54, .ireturn, 1), (55, .aload_n 0, 1), (56, .ldc 199, 2), (58, .invokevirtual 95, 3), (61, .ifCond .eq 7, 3)],
   [(64, .iconst 5, 1), (65, .goto 5, 3), (68, .bipush (-4), 2), (70, .ireturn, 1)]]
def mm_r43 : mm_R := ((yX5_namedKind, cX5_namedKind, 1, (some .int), 0, false, [(3, 90), (1, 2), (0, 14)], (3, 91)),
   RX5, mm_t43, [(95, 1, 34, 5, 0, [(3, 0)]),
    (189, 13, 5, 0, 0, []),
    (191, 13, 6, 0, 0, []),
    (193, 13, 7, 0, 0, []),
    (195, 13, 8, 0, 0, []),
    (197, 13, 9, 0, 0, []),
    (199, 13, 10, 0, 0, [])])
-- 44: "RainOrgan$Reader" "readRain"
def mm_t44 : mm_T := [[(0, .aload_n 0, 1), (1, .getfield 21, 3), (4, .getfield 201, 3), (7, .istore_n 1, 1), (8, .iload_n 1, 1), (9, .iconst 3, 1), (10, .if_icmp .lt 9, 3), (13, .aload_n 0, 1), (14, .iconst 5, 1), (15, .invokevirtual 67, 3), (18, .ireturn, 1), (19, .aload_n 0, 1), (20, .aload_n 0, 1), (21, .getfield 28, 3), (24, .getfield 204, 3), (27, .iload_n 1, 1), (28, .aaload, 1), (29, .bipush 9, 2), (31, .invokevirtual 208, 3)],
   [(34, .istore_n 2, 1), (35, .aload_n 0, 1), (36, .getfield 28, 3), (39, .getfield 212, 3), (42, .iload_n 1, 1), (43, .iload_n 2, 1), (44, .iastore, 1), (45, .aload_n 0, 1), (46, .getfield 21, 3), (49, .dup, 1), (50, .getfield 201, 3), (53, .iconst 1, 1), (54, .iadd, 1), (55, .putfield 201, 3), (58, .iload_n 2, 1), (59, .ifCond .le 7, 3), (62, .iconst 1, 1), (63, .goto 4, 3)],
   [(66, .iconst 0, 1), (67, .ireturn, 1)]]
def mm_r44 : mm_R := ((yX5_readRain, cX5_readRain, 3, (some .boolean), 0, false, [(3, 104), (1, 2), (0, 15)], (3, 105)),
   RX5, mm_t44, [(21, 0, 5, 1, 0, [(1, 199)]),
    (28, 0, 5, 2, 0, [(1, 201)]),
    (67, 1, 30, 5, 0, [(2, 227)]),
    (201, 0, 4, 10, 0, [(1, 96)]),
    (204, 0, 6, 4, 2, [(1, 172)]),
    (208, 1, 46, 5, 0, [(3, 106)]),
    (212, 0, 6, 3, 2, [(1, 168)])])
-- 45: "RainOrgan$Reader" "readTune"
def mm_t45 : mm_T := [[(0, .aload_n 0, 1), (1, .getfield 28, 3), (4, .getfield 215, 3), (7, .ifCond .le 9, 3), (10, .aload_n 0, 1), (11, .iconst 4, 1), (12, .invokevirtual 67, 3), (15, .ireturn, 1), (16, .aload_n 0, 1), (17, .getfield 28, 3), (20, .aload_n 0, 1), (21, .aload_n 0, 1), (22, .getfield 28, 3), (25, .getfield 218, 3), (28, .sipush 255, 3), (31, .invokevirtual 208, 3)],
   [(34, .putfield 215, 3), (37, .aload_n 0, 1), (38, .getfield 28, 3), (41, .getfield 215, 3), (44, .ifCond .le 7, 3), (47, .iconst 1, 1), (48, .goto 4, 3), (51, .iconst 0, 1), (52, .ireturn, 1)]]
def mm_r45 : mm_R := ((yX5_readTune, cX5_readTune, 1, (some .boolean), 0, false, [(3, 117), (1, 2), (0, 18)], (3, 118)),
   RX5, mm_t45, [(28, 0, 5, 2, 0, [(1, 201)]),
    (67, 1, 30, 5, 0, [(2, 227)]),
    (208, 1, 46, 5, 0, [(3, 106)]),
    (215, 0, 6, 6, 0, [(1, 181)]),
    (218, 0, 6, 5, 2, [(1, 176)])])
-- 46: "RainOrgan$Reader" "readSeconds"
def mm_t46 : mm_T := [[(0, .aload_n 0, 1), (1, .iconst 0, 1), (2, .iload_n 2, 1), (3, .invokevirtual 135, 3), (6, .ifCond .ne 5, 3), (9, .iconst 0, 1), (10, .ireturn, 1), (11, .aload_n 1, 1), (12, .iconst 0, 1), (13, .aload_n 0, 1), (14, .getfield 87, 3), (17, .iastore, 1), (18, .iconst 1, 1), (19, .istore_n 3, 1), (20, .iload_n 3, 1), (21, .bipush 12, 2), (23, .if_icmp .gt 46, 3), (26, .aload_n 0, 1), (27, .invokevirtual 80, 3), (30, .ifCond .ne 5, 3)],
   [(33, .iconst 0, 1), (34, .ireturn, 1), (35, .aload_n 0, 1), (36, .getfield 64, 3), (39, .iconst 4, 1), (40, .if_icmp .ne 5, 3), (43, .iload_n 3, 1), (44, .ireturn, 1), (45, .aload_n 0, 1), (46, .iload_n 3, 1), (47, .iload_n 2, 1), (48, .invokevirtual 220, 3), (51, .ifCond .ne 5, 3), (54, .iconst 0, 1), (55, .ireturn, 1), (56, .aload_n 1, 1), (57, .iload_n 3, 1), (58, .aload_n 0, 1), (59, .getfield 87, 3), (62, .iastore, 1), (63, .iinc 3 1, 3)],
   [(66, .goto (-46), 3), (69, .iconst 0, 1), (70, .ireturn, 1)]]
def mm_r46 : mm_R := ((yX5_readSeconds, cX5_readSeconds, 4, (some .int), 2, false, [(3, 108), (1, 2), (0, 16)], (3, 109)),
   RX5, mm_t46, [(64, 0, 5, 8, 0, [(1, 210)]),
    (80, 1, 31, 5, 0, [(2, 219)]),
    (87, 0, 5, 9, 0, [(1, 211)]),
    (135, 1, 36, 5, 0, [(3, 56)]),
    (220, 1, 47, 5, 0, [(3, 110)])])
-- 47: "RainOrgan$Reader" "isSecond"
def mm_t47 : mm_T := [[(0, .aload_n 0, 1), (1, .getfield 64, 3), (4, .iconst 3, 1), (5, .if_icmp .eq 9, 3), (8, .aload_n 0, 1), (9, .iconst 2, 1), (10, .invokevirtual 67, 3), (13, .ireturn, 1), (14, .aload_n 0, 1), (15, .aload_n 0, 1), (16, .invokevirtual 84, 3), (19, .putfield 87, 3), (22, .aload_n 0, 1), (23, .getfield 87, 3), (26, .iload_n 2, 1), (27, .if_icmp .le 9, 3), (30, .aload_n 0, 1), (31, .iconst 3, 1)],
   [(32, .invokevirtual 67, 3), (35, .ireturn, 1), (36, .iload_n 1, 1), (37, .bipush 12, 2), (39, .if_icmp .lt 11, 3), (42, .aload_n 0, 1), (43, .iconst 5, 1), (44, .invokevirtual 67, 3), (47, .ifCond .eq 7, 3), (50, .iconst 1, 1), (51, .goto 4, 3), (54, .iconst 0, 1), (55, .ireturn, 1)]]
def mm_r47 : mm_R := ((yX5_isSecond, cX5_isSecond, 3, (some .boolean), 2, false, [(3, 112), (1, 2), (0, 17)], (3, 113)),
   RX5, mm_t47, [(64, 0, 5, 8, 0, [(1, 210)]),
    (67, 1, 30, 5, 0, [(2, 227)]),
    (84, 1, 33, 5, 0, [(3, 60)]),
    (87, 0, 5, 9, 0, [(1, 211)])])
-- 48: "RainOrgan$Reader" "readSleep"
def mm_t48 : mm_T := [[(0, .aload_n 0, 1), (1, .getfield 21, 3), (4, .getfield 223, 3), (7, .istore_n 1, 1), (8, .iload_n 1, 1), (9, .iconst 4, 1), (10, .if_icmp .lt 9, 3), (13, .aload_n 0, 1), (14, .iconst 5, 1), (15, .invokevirtual 67, 3), (18, .ireturn, 1), (19, .aload_n 0, 1), (20, .iconst 0, 1), (21, .bipush 11, 2), (23, .invokevirtual 135, 3), (26, .ifCond .ne 5, 3), (29, .iconst 0, 1), (30, .ireturn, 1), (31, .aload_n 0, 1)],
   [(32, .getfield 21, 3), (35, .getfield 226, 3), (38, .iload_n 1, 1), (39, .aload_n 0, 1), (40, .getfield 87, 3), (43, .iastore, 1), (44, .aload_n 0, 1), (45, .aload_n 0, 1), (46, .getfield 87, 3), (49, .bipush 11, 2), (51, .invokevirtual 135, 3), (54, .ifCond .ne 5, 3), (57, .iconst 0, 1), (58, .ireturn, 1), (59, .aload_n 0, 1), (60, .getfield 21, 3), (63, .getfield 229, 3)],
   [(66, .iload_n 1, 1), (67, .aload_n 0, 1), (68, .getfield 87, 3), (71, .iastore, 1), (72, .aload_n 0, 1), (73, .iconst 1, 1), (74, .bipush 99, 2), (76, .invokevirtual 135, 3), (79, .ifCond .ne 5, 3), (82, .iconst 0, 1), (83, .ireturn, 1), (84, .aload_n 0, 1), (85, .getfield 21, 3), (88, .getfield 232, 3), (91, .iload_n 1, 1), (92, .aload_n 0, 1), (93, .getfield 87, 3)],
   [(96, .iastore, 1), (97, .aload_n 0, 1), (98, .getfield 21, 3), (101, .dup, 1), (102, .getfield 223, 3), (105, .iconst 1, 1), (106, .iadd, 1), (107, .putfield 223, 3), (110, .aload_n 0, 1), (111, .iconst 4, 1), (112, .invokevirtual 146, 3), (115, .ireturn, 1)]]
def mm_r48 : mm_R := ((yX5_readSleep, cX5_readSleep, 2, (some .boolean), 0, false, [(3, 122), (1, 2), (0, 19)], (3, 123)),
   RX5, mm_t48, [(21, 0, 5, 1, 0, [(1, 199)]),
    (67, 1, 30, 5, 0, [(2, 227)]),
    (87, 0, 5, 9, 0, [(1, 211)]),
    (135, 1, 36, 5, 0, [(3, 56)]),
    (146, 1, 35, 5, 0, [(3, 64)]),
    (223, 0, 4, 11, 0, [(1, 100)]),
    (226, 0, 4, 12, 2, [(1, 103)]),
    (229, 0, 4, 13, 2, [(1, 106)]),
    (232, 0, 4, 14, 2, [(1, 109)])])
-- 49: "RainOrgan$Reader" "readWear"
def mm_t49 : mm_T := [[(0, .aload_n 0, 1), (1, .getfield 36, 3), (4, .ifCond .eq 9, 3), (7, .aload_n 0, 1), (8, .iconst 4, 1), (9, .invokevirtual 67, 3), (12, .ireturn, 1), (13, .aload_n 0, 1), (14, .iconst 1, 1), (15, .putfield 36, 3), (18, .aload_n 0, 1), (19, .iconst 0, 1), (20, .sipush 999, 3), (23, .invokevirtual 135, 3), (26, .ifCond .ne 5, 3), (29, .iconst 0, 1), (30, .ireturn, 1), (31, .aload_n 0, 1)],
   [(32, .getfield 21, 3), (35, .aload_n 0, 1), (36, .getfield 87, 3), (39, .putfield 235, 3), (42, .aload_n 0, 1), (43, .iconst 4, 1), (44, .invokevirtual 146, 3), (47, .ireturn, 1)]]
def mm_r49 : mm_R := ((yX5_readWear, cX5_readWear, 1, (some .boolean), 0, false, [(3, 127), (1, 2), (0, 20)], (3, 128)),
   RX5, mm_t49, [(21, 0, 5, 1, 0, [(1, 199)]),
    (36, 0, 5, 5, 0, [(1, 207)]),
    (67, 1, 30, 5, 0, [(2, 227)]),
    (87, 0, 5, 9, 0, [(1, 211)]),
    (135, 1, 36, 5, 0, [(3, 56)]),
    (146, 1, 35, 5, 0, [(3, 64)]),
    (235, 0, 4, 15, 0, [(1, 113)])])
-- 50: "RainOrgan$Reader" "allPartsAreThere"
def mm_t50 : mm_T := [[(0, .iconst 0, 1), (1, .istore_n 1, 1), (2, .iload_n 1, 1), (3, .aload_n 0, 1), (4, .getfield 21, 3), (7, .getfield 132, 3), (10, .if_icmp .ge 30, 3), (13, .aload_n 0, 1), (14, .getfield 21, 3), (17, .getfield 143, 3), (20, .iload_n 1, 1), (21, .iaload, 1), (22, .aload_n 0, 1), (23, .getfield 21, 3), (26, .getfield 149, 3), (29, .if_icmp .lt 5, 3)],
   [(32, .iconst 0, 1), (33, .ireturn, 1), (34, .iinc 1 1, 3), (37, .goto (-35), 3), (40, .iconst 0, 1), (41, .istore_n 1, 1), (42, .iload_n 1, 1), (43, .aload_n 0, 1), (44, .getfield 21, 3), (47, .getfield 149, 3), (50, .if_icmp .ge 43, 3), (53, .aload_n 0, 1), (54, .aload_n 0, 1), (55, .getfield 21, 3), (58, .getfield 155, 3), (61, .iload_n 1, 1), (62, .iaload, 1), (63, .invokevirtual 237, 3)],
   [(66, .ifCond .eq 19, 3), (69, .aload_n 0, 1), (70, .aload_n 0, 1), (71, .getfield 21, 3), (74, .getfield 158, 3), (77, .iload_n 1, 1), (78, .iaload, 1), (79, .invokevirtual 237, 3), (82, .ifCond .ne 5, 3), (85, .iconst 0, 1), (86, .ireturn, 1), (87, .iinc 1 1, 3), (90, .goto (-48), 3), (93, .iconst 0, 1), (94, .istore_n 1, 1), (95, .iload_n 1, 1)],
   [(96, .aload_n 0, 1), (97, .getfield 21, 3), (100, .getfield 165, 3), (103, .if_icmp .ge 43, 3), (106, .aload_n 0, 1), (107, .getfield 28, 3), (110, .getfield 177, 3), (113, .iload_n 1, 1), (114, .iaload, 1), (115, .iconst 4, 1), (116, .if_icmp .ne 24, 3), (119, .aload_n 0, 1), (120, .getfield 21, 3), (123, .getfield 186, 3), (126, .iload_n 1, 1), (127, .iaload, 1)],
   [(128, .aload_n 0, 1), (129, .getfield 21, 3), (132, .getfield 165, 3), (135, .if_icmp .lt 5, 3), (138, .iconst 0, 1), (139, .ireturn, 1), (140, .iinc 1 1, 3), (143, .goto (-48), 3), (146, .iconst 1, 1), (147, .ireturn, 1)]]
def mm_r50 : mm_R := ((yX5_allPartsAreThere, cX5_allPartsAreThere, 2, (some .boolean), 0, false, [(2, 233), (1, 2), (0, 3)], (2, 234)),
   RX5, mm_t50, [(21, 0, 5, 1, 0, [(1, 199)]),
    (28, 0, 5, 2, 0, [(1, 201)]),
    (132, 0, 4, 0, 0, [(1, 59)]),
    (143, 0, 4, 2, 2, [(1, 65)]),
    (149, 0, 4, 3, 0, [(1, 69)]),
    (155, 0, 4, 4, 2, [(1, 73)]),
    (158, 0, 4, 5, 2, [(1, 77)]),
    (165, 0, 4, 6, 0, [(1, 81)]),
    (177, 0, 6, 2, 2, [(1, 165)]),
    (186, 0, 4, 9, 2, [(1, 93)]),
    (237, 1, 51, 5, 0, [(2, 235)])])
-- 51: "RainOrgan$Reader" "isThere"
def mm_t51 : mm_T := [[(0, .iload_n 1, 1), (1, .iconst 5, 1), (2, .if_icmp .ge 20, 3), (5, .iload_n 1, 1), (6, .aload_n 0, 1), (7, .getfield 21, 3), (10, .getfield 149, 3), (13, .if_icmp .ge 7, 3), (16, .iconst 1, 1), (17, .goto 4, 3), (20, .iconst 0, 1), (21, .ireturn, 1), (22, .iload_n 1, 1), (23, .bipush 20, 2), (25, .if_icmp .eq 17, 3), (28, .iload_n 1, 1), (29, .bipush 10, 2), (31, .isub, 1)],
   [(32, .aload_n 0, 1), (33, .getfield 21, 3), (36, .getfield 165, 3), (39, .if_icmp .ge 7, 3), (42, .iconst 1, 1), (43, .goto 4, 3), (46, .iconst 0, 1), (47, .ireturn, 1)]]
def mm_r51 : mm_R := ((yX5_isThere, cX5_isThere, 2, (some .boolean), 1, false, [(2, 237), (1, 2), (0, 4)], (2, 238)),
   RX5, mm_t51, [(21, 0, 5, 1, 0, [(1, 199)]),
    (149, 0, 4, 3, 0, [(1, 69)]),
    (165, 0, 4, 6, 0, [(1, 81)])])
-- 52: "RainOrgan$Setup" "<init>"
def mm_t52 : mm_T := [[(0, .aload_n 0, 1), (1, .invokespecial 3, 3), (4, .aload_n 0, 1), (5, .iconst 5, 1), (6, .newarray .int, 2), (8, .putfield 9, 3), (11, .aload_n 0, 1), (12, .iconst 5, 1), (13, .newarray .int, 2), (15, .putfield 15, 3), (18, .aload_n 0, 1), (19, .bipush 8, 2), (21, .newarray .int, 2), (23, .putfield 18, 3), (26, .aload_n 0, 1), (27, .iconst 3, 1), (28, .newarray .int, 2), (30, .putfield 21, 3)],
   [(33, .aload_n 0, 1), (34, .iconst 3, 1), (35, .bipush 12, 2), (37, .multianewarray 24 2, 4), (41, .putfield 26, 3), (44, .aload_n 0, 1), (45, .bipush 12, 2), (47, .newarray .int, 2), (49, .putfield 29, 3), (52, .return_, 1)]]
def mm_r52 : mm_R := ((yX6_init, cX6_init, 1, none, 0, false, [(1, 151), (1, 5)], (1, 152)),
   RX6, mm_t52, [(3, 6, 0, 0, 0, [(1, 153), (1, 25), (1, 26)]),
    (9, 0, 6, 0, 1, [(1, 156)]),
    (15, 0, 6, 1, 1, [(1, 159)]),
    (18, 0, 6, 2, 1, [(1, 162)]),
    (21, 0, 6, 3, 1, [(1, 166)]),
    (24, 9, 4, 0, 0, [(1, 154), (1, 147)]),
    (26, 0, 6, 4, 1, [(1, 170)]),
    (29, 0, 6, 5, 1, [(1, 174)])])
-- 53: "RainOrgan$Setup" "forget"
def mm_t53 : mm_T := [[(0, .aload_n 0, 1), (1, .getfield 9, 3), (4, .iconst 2, 1), (5, .invokestatic 32, 3), (8, .aload_n 0, 1), (9, .getfield 15, 3), (12, .iconst 0, 1), (13, .invokestatic 32, 3), (16, .aload_n 0, 1), (17, .iconst 0, 1), (18, .putfield 38, 3), (21, .return_, 1)]]
def mm_r53 : mm_R := ((yX6_forget, cX6_forget, 1, none, 0, false, [(2, 209), (1, 5), (2, 210)], (2, 211)),
   RX6, mm_t53, [(9, 0, 6, 0, 2, [(1, 156)]),
    (15, 0, 6, 1, 2, [(1, 159)]),
    (32, 2, 200, 0, 0, [(2, 212)]),
    (38, 0, 6, 6, 0, [(1, 178)])])
-- 54: "RainOrgan$Setup" "copyFrom"
def mm_t54 : mm_T := [[(0, .aload_n 1, 1), (1, .getfield 9, 3), (4, .iconst 0, 1), (5, .aload_n 0, 1), (6, .getfield 9, 3), (9, .iconst 0, 1), (10, .iconst 5, 1), (11, .invokestatic 42, 3), (14, .aload_n 1, 1), (15, .getfield 15, 3), (18, .iconst 0, 1), (19, .aload_n 0, 1), (20, .getfield 15, 3), (23, .iconst 0, 1), (24, .iconst 5, 1), (25, .invokestatic 42, 3), (28, .aload_n 1, 1), (29, .getfield 18, 3)],
   [(32, .iconst 0, 1), (33, .aload_n 0, 1), (34, .getfield 18, 3), (37, .iconst 0, 1), (38, .bipush 8, 2), (40, .invokestatic 42, 3), (43, .aload_n 1, 1), (44, .getfield 21, 3), (47, .iconst 0, 1), (48, .aload_n 0, 1), (49, .getfield 21, 3), (52, .iconst 0, 1), (53, .iconst 3, 1), (54, .invokestatic 42, 3), (57, .iconst 0, 1), (58, .istore_n 2, 1), (59, .iload_n 2, 1), (60, .iconst 3, 1), (61, .if_icmp .ge 28, 3)],
   [(64, .aload_n 1, 1), (65, .getfield 26, 3), (68, .iload_n 2, 1), (69, .aaload, 1), (70, .iconst 0, 1), (71, .aload_n 0, 1), (72, .getfield 26, 3), (75, .iload_n 2, 1), (76, .aaload, 1), (77, .iconst 0, 1), (78, .bipush 12, 2), (80, .invokestatic 42, 3), (83, .iinc 2 1, 3), (86, .goto (-27), 3), (89, .aload_n 1, 1), (90, .getfield 29, 3), (93, .iconst 0, 1), (94, .aload_n 0, 1), (95, .getfield 29, 3)],
   [(98, .iconst 0, 1), (99, .bipush 12, 2), (101, .invokestatic 42, 3), (104, .aload_n 0, 1), (105, .aload_n 1, 1), (106, .getfield 38, 3), (109, .putfield 38, 3), (112, .return_, 1)]]
def mm_r54 : mm_R := ((yX6_copyFrom, cX6_copyFrom, 3, none, 1, false, [(4, 165), (1, 5), (4, 166)], (4, 167)),
   RX6, mm_t54, [(9, 0, 6, 0, 2, [(1, 156)]),
    (15, 0, 6, 1, 2, [(1, 159)]),
    (18, 0, 6, 2, 2, [(1, 162)]),
    (21, 0, 6, 3, 2, [(1, 166)]),
    (26, 0, 6, 4, 2, [(1, 170)]),
    (29, 0, 6, 5, 2, [(1, 174)]),
    (38, 0, 6, 6, 0, [(1, 178)]),
    (42, 12, 0, 0, 0, [(4, 168), (3, 215), (3, 214), (1, 17)])])
-- 55: "RainOrgan$Setup" "pegsAsNumber"
def mm_t55 : mm_T := [[(0, .iconst 0, 1), (1, .istore_n 2, 1), (2, .iload_n 1, 1), (3, .iconst 1, 1), (4, .isub, 1), (5, .istore_n 3, 1), (6, .iload_n 3, 1), (7, .ifCond .lt 20, 3), (10, .iload_n 2, 1), (11, .iconst 3, 1), (12, .imul, 1), (13, .aload_n 0, 1), (14, .getfield 9, 3), (17, .iload_n 3, 1), (18, .iaload, 1), (19, .iadd, 1), (20, .istore_n 2, 1), (21, .iinc 3 (-1), 3), (24, .goto (-18), 3), (27, .iload_n 2, 1), (28, .ireturn, 1)]]
def mm_r55 : mm_R := ((yX6_pegsAsNumber, cX6_pegsAsNumber, 4, (some .int), 1, false, [(3, 195), (1, 5), (3, 196)], (3, 197)),
   RX6, mm_t55, [(9, 0, 6, 0, 2, [(1, 156)])])
-- 56: "RainOrgan$Setup" "setPegs"
def mm_t56 : mm_T := [[(0, .iload_n 2, 1), (1, .istore_n 3, 1), (2, .iconst 0, 1), (3, .istore 4, 2), (5, .iload 4, 2), (7, .iload_n 1, 1), (8, .if_icmp .ge 23, 3), (11, .aload_n 0, 1), (12, .getfield 9, 3), (15, .iload 4, 2), (17, .iload_n 3, 1), (18, .iconst 3, 1), (19, .irem, 1), (20, .iastore, 1), (21, .iload_n 3, 1), (22, .iconst 3, 1), (23, .idiv, 1), (24, .istore_n 3, 1), (25, .iinc 4 1, 3), (28, .goto (-23), 3), (31, .return_, 1)]]
def mm_r56 : mm_R := ((yX6_setPegs, cX6_setPegs, 5, none, 2, false, [(3, 199), (1, 5), (3, 200)], (3, 201)),
   RX6, mm_t56, [(9, 0, 6, 0, 2, [(1, 156)])])
-- 57: "RainOrgan$Sheet" "<init>"
def mm_t57 : mm_T := [[(0, .aload_n 0, 1), (1, .invokespecial 3, 3), (4, .aload_n 0, 1), (5, .bipush 40, 2), (7, .newarray .int, 2), (9, .putfield 9, 3), (12, .aload_n 0, 1), (13, .iconst (-1), 1), (14, .putfield 15, 3), (17, .return_, 1)]]
def mm_r57 : mm_R := ((yX7_init, cX7_init, 1, none, 0, false, [(2, 138), (1, 10)], (2, 139)),
   RX7, mm_t57, [(3, 6, 0, 0, 0, [(2, 140), (1, 25), (1, 26)]),
    (9, 0, 7, 0, 1, [(2, 141)]),
    (15, 0, 7, 2, 0, [(2, 145)])])
-- 58: "RainOrgan$Sheet" "isNothing"
def mm_t58 : mm_T := [[(0, .aload_n 0, 1), (1, .getfield 15, 3), (4, .iconst (-1), 1), (5, .if_icmp .ne 7, 3), (8, .iconst 1, 1), (9, .goto 4, 3), (12, .iconst 0, 1), (13, .ireturn, 1)]]
def mm_r58 : mm_R := ((yX7_isNothing, cX7_isNothing, 1, (some .boolean), 0, false, [(4, 201), (1, 10), (4, 202)], (4, 203)),
   RX7, mm_t58, [(15, 0, 7, 2, 0, [(2, 145)])])
-- 59: "RainOrgan$Sheet" "renew"
def mm_t59 : mm_T := [[(0, .aload_n 0, 1), (1, .getfield 9, 3), (4, .iconst 0, 1), (5, .invokestatic 19, 3), (8, .aload_n 0, 1), (9, .iload_n 1, 1), (10, .putfield 25, 3), (13, .aload_n 0, 1), (14, .iload_n 2, 1), (15, .putfield 15, 3), (18, .return_, 1)]]
def mm_r59 : mm_R := ((yX7_renew, cX7_renew, 3, none, 2, false, [(4, 188), (1, 10), (4, 189)], (4, 190)),
   RX7, mm_t59, [(9, 0, 7, 0, 2, [(2, 141)]),
    (15, 0, 7, 2, 0, [(2, 145)]),
    (19, 2, 200, 0, 0, [(4, 191)]),
    (25, 0, 7, 1, 0, [(2, 143)])])
-- 60: "RainOrgan$Sheet" "faultAt"
def mm_t60 : mm_T := [[(0, .aload_n 0, 1), (1, .invokevirtual 28, 3), (4, .ifCond .eq 5, 3), (7, .iconst 1, 1), (8, .ireturn, 1), (9, .iload_n 1, 1), (10, .aload_n 0, 1), (11, .getfield 25, 3), (14, .if_icmp .eq 5, 3), (17, .iconst 3, 1), (18, .ireturn, 1), (19, .iload_n 2, 1), (20, .ifCond .lt 11, 3), (23, .iload_n 2, 1), (24, .aload_n 0, 1), (25, .getfield 15, 3), (28, .if_icmp .lt 7, 3), (31, .iconst 2, 1)],
   [(32, .goto 4, 3), (35, .iconst 0, 1), (36, .ireturn, 1)]]
def mm_r60 : mm_R := ((yX7_faultAt, cX7_faultAt, 3, (some .int), 2, false, [(4, 197), (1, 10), (4, 198)], (4, 199)),
   RX7, mm_t60, [(15, 0, 7, 2, 0, [(2, 145)]),
    (25, 0, 7, 1, 0, [(2, 143)]),
    (28, 1, 58, 7, 0, [(4, 200)])])
-- 61: "RainOrgan$Sheet" "put"
def mm_t61 : mm_T := [[(0, .aload_n 0, 1), (1, .getfield 25, 3), (4, .ifCond .ne 14, 3), (7, .aload_n 0, 1), (8, .getfield 9, 3), (11, .iload_n 1, 1), (12, .iload_n 2, 1), (13, .i2b, 1), (14, .iastore, 1), (15, .goto 29, 3), (18, .aload_n 0, 1), (19, .getfield 25, 3), (22, .iconst 1, 1), (23, .if_icmp .ne 14, 3), (26, .aload_n 0, 1), (27, .getfield 9, 3), (30, .iload_n 1, 1), (31, .iload_n 2, 1)],
   [(32, .i2s, 1), (33, .iastore, 1), (34, .goto 10, 3), (37, .aload_n 0, 1), (38, .getfield 9, 3), (41, .iload_n 1, 1), (42, .iload_n 2, 1), (43, .iastore, 1), (44, .return_, 1)]]
def mm_r61 : mm_R := ((yX7_put, cX7_put, 3, none, 2, false, [(4, 205), (1, 10), (4, 206)], (4, 207)),
   RX7, mm_t61, [(9, 0, 7, 0, 2, [(2, 141)]),
    (25, 0, 7, 1, 0, [(2, 143)])])
-- 62: "RainOrgan$Tape" "<init>"
def mm_t62 : mm_T := [[(0, .aload_n 0, 1), (1, .invokespecial 3, 3), (4, .aload_n 0, 1), (5, .sipush 320, 3), (8, .newarray .byte, 2), (10, .putfield 9, 3), (13, .return_, 1)]]
def mm_r62 : mm_R := ((yX8_init, cX8_init, 1, none, 0, false, [(1, 36), (1, 3)], (1, 37)),
   RX8, mm_t62, [(3, 6, 0, 0, 0, [(1, 38), (1, 25), (1, 26)]),
    (9, 0, 8, 0, 1, [(1, 39)])])
-- 63: "RainOrgan" "<init>"
def mm_t63 : mm_T := [[(0, .aload_n 0, 1), (1, .invokespecial 1, 3), (4, .aload_n 0, 1), (5, .new 7, 3), (8, .dup, 1), (9, .invokespecial 9, 3), (12, .putfield 10, 3), (15, .aload_n 0, 1), (16, .aload_n 0, 1), (17, .getfield 10, 3), (20, .getfield 16, 3), (23, .putfield 20, 3), (26, .aload_n 0, 1), (27, .new 21, 3), (30, .dup, 1), (31, .invokespecial 23, 3)],
   [(34, .putfield 24, 3), (37, .aload_n 0, 1), (38, .new 28, 3), (41, .dup, 1), (42, .invokespecial 30, 3), (45, .putfield 31, 3), (48, .aload_n 0, 1), (49, .new 35, 3), (52, .dup, 1), (53, .invokespecial 37, 3), (56, .putfield 38, 3), (59, .aload_n 0, 1), (60, .new 42, 3), (63, .dup, 1)],
   [(64, .invokespecial 44, 3), (67, .putfield 45, 3), (70, .aload_n 0, 1), (71, .new 49, 3), (74, .dup, 1), (75, .invokespecial 51, 3), (78, .putfield 52, 3), (81, .aload_n 0, 1), (82, .iconst 2, 1), (83, .anewarray 56, 3), (86, .putfield 58, 3), (89, .aload_n 0, 1), (90, .iconst 4, 1), (91, .anewarray 62, 3), (94, .putfield 64, 3)],
   [(97, .iconst 0, 1), (98, .istore_n 1, 1), (99, .iload_n 1, 1), (100, .iconst 2, 1), (101, .if_icmp .ge 22, 3), (104, .aload_n 0, 1), (105, .getfield 58, 3), (108, .iload_n 1, 1), (109, .new 56, 3), (112, .dup, 1), (113, .invokespecial 68, 3), (116, .aastore, 1), (117, .iinc 1 1, 3), (120, .goto (-21), 3), (123, .iconst 0, 1), (124, .istore_n 1, 1), (125, .iload_n 1, 1), (126, .iconst 4, 1), (127, .if_icmp .ge 22, 3)],
   [(130, .aload_n 0, 1), (131, .getfield 64, 3), (134, .iload_n 1, 1), (135, .new 62, 3), (138, .dup, 1), (139, .invokespecial 69, 3), (142, .aastore, 1), (143, .iinc 1 1, 3), (146, .goto (-21), 3), (149, .return_, 1)]]
def mm_r63 : mm_R := ((yX9_init, cX9_init, 2, none, 0, false, [(1, 22), (1, 1)], (1, 23)),
   RX9, mm_t63, [(1, 6, 0, 0, 0, [(1, 24), (1, 25), (1, 26)]),
    (7, 7, 5, 0, 0, [(1, 27), (1, 28), (1, 2)]),
    (9, 4, 28, 0, 0, []),
    (10, 0, 9, 0, 1, [(2, 154)]),
    (16, 0, 5, 0, 2, [(1, 198)]),
    (20, 0, 9, 1, 1, [(2, 155)]),
    (21, 7, 4, 0, 0, [(1, 233), (1, 51), (1, 4)]),
    (23, 4, 26, 0, 4, []),
    (24, 0, 9, 2, 0, [(2, 156)]),
    (28, 7, 6, 0, 0, [(1, 235), (1, 149), (1, 5)]),
    (30, 4, 52, 0, 5, []),
    (31, 0, 9, 3, 0, [(2, 157)]),
    (35, 7, 2, 0, 0, [(1, 237), (1, 238), (1, 6)]),
    (37, 4, 9, 0, 6, []),
    (38, 0, 9, 4, 1, [(2, 158)]),
    (42, 7, 1, 0, 0, [(2, 51), (2, 52), (1, 7)]),
    (44, 4, 4, 0, 7, []),
    (45, 0, 9, 5, 1, [(2, 159)]),
    (49, 7, 0, 0, 0, [(2, 74), (2, 75), (1, 8)]),
    (51, 4, 0, 0, 9, []),
    (52, 0, 9, 6, 1, [(2, 160)]),
    (56, 7, 3, 0, 0, [(2, 111), (2, 115), (1, 9)]),
    (58, 0, 9, 7, 1, [(2, 161)]),
    (62, 7, 7, 0, 0, [(2, 113), (2, 136), (1, 10)]),
    (64, 0, 9, 8, 1, [(2, 162)]),
    (68, 4, 25, 0, 10, []),
    (69, 4, 57, 0, 13, [])])
-- 64: "RainOrgan" "feed"
def mm_t64 : mm_T := [[(0, .aload_n 0, 1), (1, .getfield 20, 3), (4, .getfield 70, 3), (7, .bipush 8, 2), (9, .iadd, 1), (10, .sipush 320, 3), (13, .if_icmp .le 6, 3), (16, .bipush (-3), 2), (18, .ireturn, 1), (19, .bipush 56, 2), (21, .istore_n 3, 1), (22, .iload_n 3, 1), (23, .ifCond .lt 42, 3), (26, .aload_n 0, 1), (27, .getfield 20, 3), (30, .getfield 76, 3)],
   [(33, .aload_n 0, 1), (34, .getfield 20, 3), (37, .getfield 70, 3), (40, .lload_n 1, 1), (41, .iload_n 3, 1), (42, .lushr, 1), (43, .l2i, 1), (44, .i2b, 1), (45, .bastore, 1), (46, .aload_n 0, 1), (47, .getfield 20, 3), (50, .dup, 1), (51, .getfield 70, 3), (54, .iconst 1, 1), (55, .iadd, 1), (56, .putfield 70, 3), (59, .iinc 3 (-8), 3), (62, .goto (-40), 3)],
   [(65, .aload_n 0, 1), (66, .getfield 20, 3), (69, .getfield 70, 3), (72, .ireturn, 1)]]
def mm_r64 : mm_R := ((yX9_feed, cX9_feed, 4, (some .int), 1, false, [(2, 189), (1, 1), (2, 190)], (2, 191)),
   RX9, mm_t64, [(20, 0, 9, 1, 2, [(2, 155)]),
    (70, 0, 8, 1, 0, [(1, 42)]),
    (76, 0, 8, 0, 2, [(1, 40)])])
-- 65: "RainOrgan" "end"
def mm_t65 : mm_T := [[(0, .iload_n 1, 1), (1, .ifCond .lt 14, 3), (4, .iload_n 1, 1), (5, .aload_n 0, 1), (6, .getfield 20, 3), (9, .getfield 70, 3), (12, .if_icmp .le 5, 3), (15, .iconst (-1), 1), (16, .ireturn, 1), (17, .aload_n 0, 1), (18, .getfield 20, 3), (21, .getfield 70, 3), (24, .istore_n 2, 1), (25, .aload_n 0, 1), (26, .getfield 20, 3), (29, .iload_n 1, 1), (30, .putfield 70, 3)],
   [(33, .iload_n 2, 1), (34, .ireturn, 1)]]
def mm_r65 : mm_R := ((yX9_end, cX9_end, 3, (some .int), 1, false, [(2, 193), (1, 1), (2, 194)], (2, 195)),
   RX9, mm_t65, [(20, 0, 9, 1, 2, [(2, 155)]),
    (70, 0, 8, 1, 0, [(1, 42)])])
-- 66: "RainOrgan" "organ"
def mm_t66 : mm_T := [[(0, .iconst 0, 1), (1, .istore_n 1, 1), (2, .aload_n 0, 1), (3, .getfield 10, 3), (6, .invokevirtual 80, 3), (9, .iload_n 1, 1), (10, .sipush 320, 3), (13, .if_icmp .ge 19, 3), (16, .aload_n 0, 1), (17, .getfield 10, 3), (20, .invokevirtual 83, 3), (23, .ifCond .eq 9, 3), (26, .iinc 1 1, 3), (29, .goto (-20), 3)],
   [(32, .aload_n 0, 1), (33, .getfield 20, 3), (36, .iconst 0, 1), (37, .putfield 70, 3), (40, .aload_n 0, 1), (41, .aload_n 0, 1), (42, .getfield 10, 3), (45, .getfield 87, 3), (48, .putfield 90, 3), (51, .aload_n 0, 1), (52, .getfield 90, 3), (55, .ifCond .eq 14, 3), (58, .bipush (-10), 2), (60, .aload_n 0, 1), (61, .getfield 10, 3)],
   [(64, .getfield 93, 3), (67, .isub, 1), (68, .ireturn, 1), (69, .aload_n 0, 1), (70, .invokevirtual 96, 3), (73, .iload_n 1, 1), (74, .ireturn, 1)]]
def mm_r66 : mm_R := ((yX9_organ, cX9_organ, 2, (some .int), 0, false, [(2, 197), (1, 1), (2, 198)], (2, 199)),
   RX9, mm_t66, [(10, 0, 9, 0, 2, [(2, 154)]),
    (20, 0, 9, 1, 2, [(2, 155)]),
    (70, 0, 8, 1, 0, [(1, 42)]),
    (80, 1, 29, 5, 0, [(2, 200)]),
    (83, 1, 37, 5, 0, [(2, 215)]),
    (87, 0, 5, 3, 0, [(1, 204)]),
    (90, 0, 9, 9, 0, [(2, 163)]),
    (93, 0, 5, 4, 0, [(1, 206)]),
    (96, 1, 67, 9, 0, [(3, 129)])])
-- 67: "RainOrgan" "takeWhatWasRead"
def mm_t67 : mm_T := [[(0, .aload_n 0, 1), (1, .getfield 24, 3), (4, .astore_n 1, 1), (5, .aload_n 0, 1), (6, .getfield 31, 3), (9, .astore_n 2, 1), (10, .aload_n 0, 1), (11, .aload_n 0, 1), (12, .getfield 10, 3), (15, .getfield 99, 3), (18, .putfield 24, 3), (21, .aload_n 0, 1), (22, .aload_n 0, 1), (23, .getfield 10, 3), (26, .getfield 100, 3), (29, .putfield 31, 3)],
   [(32, .aload_n 0, 1), (33, .getfield 10, 3), (36, .aload_n 1, 1), (37, .putfield 99, 3), (40, .aload_n 0, 1), (41, .getfield 10, 3), (44, .aload_n 2, 1), (45, .putfield 100, 3), (48, .aload_n 0, 1), (49, .getfield 38, 3), (52, .invokevirtual 101, 3), (55, .iconst 0, 1), (56, .istore_n 3, 1), (57, .iload_n 3, 1), (58, .iconst 2, 1), (59, .if_icmp .ge 19, 3), (62, .aload_n 0, 1), (63, .getfield 58, 3)],
   [(66, .iload_n 3, 1), (67, .aaload, 1), (68, .iconst 0, 1), (69, .putfield 104, 3), (72, .iinc 3 1, 3), (75, .goto (-18), 3), (78, .return_, 1)]]
def mm_r67 : mm_R := ((yX9_takeWhatWasRead, cX9_takeWhatWasRead, 4, none, 0, false, [(3, 131), (1, 1), (0, 21)], (3, 132)),
   RX9, mm_t67, [(10, 0, 9, 0, 2, [(2, 154)]),
    (24, 0, 9, 2, 0, [(2, 156)]),
    (31, 0, 9, 3, 0, [(2, 157)]),
    (38, 0, 9, 4, 2, [(2, 158)]),
    (58, 0, 9, 7, 2, [(2, 161)]),
    (99, 0, 5, 1, 0, [(1, 200)]),
    (100, 0, 5, 2, 0, [(1, 202)]),
    (101, 1, 10, 2, 0, [(3, 133)]),
    (104, 0, 3, 2, 0, [(2, 128)])])
-- 68: "RainOrgan" "fault"
def mm_t68 : mm_T := [[(0, .aload_n 0, 1), (1, .getfield 90, 3), (4, .ireturn, 1)]]
def mm_r68 : mm_R := ((yX9_fault, cX9_fault, 1, (some .int), 0, false, [(3, 142), (1, 1), (3, 143)], (3, 144)),
   RX9, mm_t68, [(90, 0, 9, 9, 0, [(2, 163)])])
-- 69: "RainOrgan" "rule"
def mm_t69 : mm_T := [[(0, .iload_n 1, 1), (1, .tableswitch 99 0 6 #[43, 51, 59, 67, 75, 83, 91], 43)],
   [(44, .aload_n 0, 1), (45, .getfield 24, 3), (48, .getfield 108, 3), (51, .ireturn, 1), (52, .aload_n 0, 1), (53, .getfield 24, 3), (56, .getfield 111, 3), (59, .ireturn, 1), (60, .aload_n 0, 1), (61, .getfield 24, 3)],
   [(64, .getfield 114, 3), (67, .ireturn, 1), (68, .aload_n 0, 1), (69, .getfield 24, 3), (72, .getfield 117, 3), (75, .ireturn, 1), (76, .aload_n 0, 1), (77, .getfield 31, 3), (80, .getfield 120, 3), (83, .ireturn, 1), (84, .aload_n 0, 1), (85, .getfield 24, 3), (88, .getfield 123, 3), (91, .ireturn, 1), (92, .aload_n 0, 1), (93, .getfield 24, 3)],
   [(96, .getfield 126, 3), (99, .ireturn, 1), (100, .iconst (-1), 1), (101, .ireturn, 1)]]
def mm_r69 : mm_R := ((yX9_rule, cX9_rule, 2, (some .int), 1, false, [(3, 146), (1, 1), (3, 147)], (3, 148)),
   RX9, mm_t69, [(24, 0, 9, 2, 0, [(2, 156)]),
    (31, 0, 9, 3, 0, [(2, 157)]),
    (108, 0, 4, 0, 0, [(1, 58)]),
    (111, 0, 4, 3, 0, [(1, 68)]),
    (114, 0, 4, 6, 0, [(1, 79)]),
    (117, 0, 4, 10, 0, [(1, 95)]),
    (120, 0, 6, 6, 0, [(1, 180)]),
    (123, 0, 4, 11, 0, [(1, 99)]),
    (126, 0, 4, 15, 0, [(1, 111)])])
-- 70: "RainOrgan" "gutter"
def mm_t70 : mm_T := [[(0, .aload_n 0, 1), (1, .iload_n 1, 1), (2, .invokevirtual 129, 3), (5, .ifCond .ne 5, 3), (8, .iconst (-1), 1), (9, .ireturn, 1), (10, .iload_n 2, 1), (11, .tableswitch 69 0 3 #[29, 39, 49, 59], 29)],
   [(40, .aload_n 0, 1), (41, .getfield 24, 3), (44, .getfield 133, 3), (47, .iload_n 1, 1), (48, .iaload, 1), (49, .ireturn, 1), (50, .aload_n 0, 1), (51, .getfield 24, 3), (54, .getfield 137, 3), (57, .iload_n 1, 1), (58, .iaload, 1), (59, .ireturn, 1), (60, .aload_n 0, 1), (61, .getfield 31, 3)],
   [(64, .getfield 140, 3), (67, .iload_n 1, 1), (68, .iaload, 1), (69, .ireturn, 1), (70, .aload_n 0, 1), (71, .getfield 31, 3), (74, .getfield 143, 3), (77, .iload_n 1, 1), (78, .iaload, 1), (79, .ireturn, 1), (80, .iconst (-1), 1), (81, .ireturn, 1)]]
def mm_r70 : mm_R := ((yX9_gutter, cX9_gutter, 3, (some .int), 2, false, [(3, 150), (1, 1), (3, 151)], (3, 152)),
   RX9, mm_t70, [(24, 0, 9, 2, 0, [(2, 156)]),
    (31, 0, 9, 3, 0, [(2, 157)]),
    (129, 1, 103, 9, 0, [(3, 153)]),
    (133, 0, 4, 4, 2, [(1, 72)]),
    (137, 0, 4, 5, 2, [(1, 76)]),
    (140, 0, 6, 0, 2, [(1, 158)]),
    (143, 0, 6, 1, 2, [(1, 161)])])
-- 71: "RainOrgan" "spout"
def mm_t71 : mm_T := [[(0, .aload_n 0, 1), (1, .iload_n 1, 1), (2, .invokevirtual 146, 3), (5, .ifCond .ne 5, 3), (8, .iconst (-1), 1), (9, .ireturn, 1), (10, .aload_n 0, 1), (11, .getfield 31, 3), (14, .getfield 149, 3), (17, .iload_n 1, 1), (18, .iaload, 1), (19, .istore_n 3, 1), (20, .iload_n 2, 1), (21, .tableswitch 152 0 7 #[47, 57, 59, 80, 100, 110, 121, 142], 47)],
   [],
   [(68, .aload_n 0, 1), (69, .getfield 24, 3), (72, .getfield 152, 3), (75, .iload_n 1, 1), (76, .iaload, 1), (77, .ireturn, 1), (78, .iload_n 3, 1), (79, .ireturn, 1), (80, .iload_n 3, 1), (81, .invokestatic 155, 3), (84, .ifCond .eq 15, 3), (87, .aload_n 0, 1), (88, .getfield 24, 3), (91, .getfield 158, 3), (94, .iload_n 1, 1), (95, .iaload, 1)],
   [(96, .goto 4, 3), (99, .iconst 0, 1), (100, .ireturn, 1), (101, .iload_n 3, 1), (102, .iconst 4, 1), (103, .if_icmp .ne 15, 3), (106, .aload_n 0, 1), (107, .getfield 24, 3), (110, .getfield 161, 3), (113, .iload_n 1, 1), (114, .iaload, 1), (115, .goto 5, 3), (118, .bipush (-4), 2), (120, .ireturn, 1), (121, .aload_n 0, 1), (122, .getfield 38, 3), (125, .getfield 164, 3)],
   [(128, .iload_n 1, 1), (129, .iaload, 1), (130, .ireturn, 1), (131, .aload_n 0, 1), (132, .getfield 38, 3), (135, .getfield 167, 3), (138, .iload_n 1, 1), (139, .laload, 1), (140, .l2i, 1), (141, .ireturn, 1), (142, .aload_n 0, 1), (143, .getfield 38, 3), (146, .aload_n 0, 1), (147, .getfield 24, 3), (150, .iload_n 1, 1), (151, .invokevirtual 171, 3), (154, .ifCond .eq 7, 3), (157, .iconst 1, 1), (158, .goto 4, 3)],
   [(161, .iconst 0, 1), (162, .ireturn, 1), (163, .aload_n 0, 1), (164, .getfield 38, 3), (167, .getfield 175, 3), (170, .iload_n 1, 1), (171, .iaload, 1), (172, .ireturn, 1), (173, .iconst (-1), 1), (174, .ireturn, 1)]]
def mm_r71 : mm_R := ((yX9_spout, cX9_spout, 4, (some .int), 2, false, [(3, 158), (1, 1), (3, 159)], (3, 160)),
   RX9, mm_t71, [(24, 0, 9, 2, 0, [(2, 156)]),
    (31, 0, 9, 3, 0, [(2, 157)]),
    (38, 0, 9, 4, 2, [(2, 158)]),
    (146, 1, 104, 9, 0, [(3, 161)]),
    (149, 0, 6, 2, 2, [(1, 163)]),
    (152, 0, 4, 7, 2, [(1, 83)]),
    (155, 2, 110, 9, 0, [(3, 165)]),
    (158, 0, 4, 8, 2, [(1, 87)]),
    (161, 0, 4, 9, 2, [(1, 91)]),
    (164, 0, 2, 0, 2, [(2, 4)]),
    (167, 0, 2, 2, 2, [(2, 7)]),
    (171, 1, 23, 2, 0, [(3, 166)]),
    (175, 0, 2, 3, 2, [(2, 9)])])
-- 72: "RainOrgan" "peg"
def mm_t72 : mm_T := [[(0, .aload_n 0, 1), (1, .iload_n 1, 1), (2, .invokevirtual 129, 3), (5, .ifCond .eq 12, 3), (8, .iload_n 2, 1), (9, .ifCond .lt 8, 3), (12, .iload_n 2, 1), (13, .iconst 2, 1), (14, .if_icmp .le 5, 3), (17, .iconst (-1), 1), (18, .ireturn, 1), (19, .aload_n 0, 1), (20, .getfield 31, 3), (23, .getfield 140, 3), (26, .iload_n 1, 1), (27, .iaload, 1), (28, .istore_n 3, 1), (29, .aload_n 0, 1), (30, .getfield 31, 3)],
   [(33, .getfield 140, 3), (36, .iload_n 1, 1), (37, .iload_n 2, 1), (38, .iastore, 1), (39, .iload_n 3, 1), (40, .ireturn, 1)]]
def mm_r72 : mm_R := ((yX9_peg, cX9_peg, 4, (some .int), 2, false, [(3, 171), (1, 1), (3, 172)], (3, 173)),
   RX9, mm_t72, [(31, 0, 9, 3, 0, [(2, 157)]),
    (129, 1, 103, 9, 0, [(3, 153)]),
    (140, 0, 6, 0, 2, [(1, 158)])])
-- 73: "RainOrgan" "block"
def mm_t73 : mm_T := [[(0, .aload_n 0, 1), (1, .iload_n 1, 1), (2, .invokevirtual 129, 3), (5, .ifCond .ne 5, 3), (8, .iconst (-1), 1), (9, .ireturn, 1), (10, .aload_n 0, 1), (11, .getfield 31, 3), (14, .getfield 143, 3), (17, .iload_n 1, 1), (18, .iaload, 1), (19, .istore_n 3, 1), (20, .aload_n 0, 1), (21, .getfield 31, 3), (24, .getfield 143, 3), (27, .iload_n 1, 1), (28, .iload_n 2, 1), (29, .ifCond .eq 7, 3)],
   [(32, .iconst 1, 1), (33, .goto 4, 3), (36, .iconst 0, 1), (37, .iastore, 1), (38, .iload_n 3, 1), (39, .ireturn, 1)]]
def mm_r73 : mm_R := ((yX9_block, cX9_block, 4, (some .int), 2, false, [(3, 175), (1, 1), (3, 176)], (3, 177)),
   RX9, mm_t73, [(31, 0, 9, 3, 0, [(2, 157)]),
    (129, 1, 103, 9, 0, [(3, 153)]),
    (143, 0, 6, 1, 2, [(1, 161)])])
-- 74: "RainOrgan" "cup"
def mm_t74 : mm_T := [[(0, .aload_n 0, 1), (1, .iload_n 1, 1), (2, .invokevirtual 146, 3), (5, .ifCond .eq 12, 3), (8, .iload_n 2, 1), (9, .ifCond .eq 10, 3), (12, .iload_n 2, 1), (13, .iconst 5, 1), (14, .if_icmp .eq 5, 3), (17, .iconst (-1), 1), (18, .ireturn, 1), (19, .aload_n 0, 1), (20, .getfield 31, 3), (23, .getfield 149, 3), (26, .iload_n 1, 1), (27, .iaload, 1), (28, .istore_n 3, 1), (29, .aload_n 0, 1), (30, .getfield 31, 3)],
   [(33, .getfield 149, 3), (36, .iload_n 1, 1), (37, .iload_n 2, 1), (38, .iastore, 1), (39, .aload_n 0, 1), (40, .getfield 38, 3), (43, .iload_n 1, 1), (44, .invokevirtual 178, 3), (47, .iload_n 3, 1), (48, .ireturn, 1)]]
def mm_r74 : mm_R := ((yX9_cup, cX9_cup, 4, (some .int), 2, false, [(3, 179), (1, 1), (3, 180)], (3, 181)),
   RX9, mm_t74, [(31, 0, 9, 3, 0, [(2, 157)]),
    (38, 0, 9, 4, 2, [(2, 158)]),
    (146, 1, 104, 9, 0, [(3, 161)]),
    (149, 0, 6, 2, 2, [(1, 163)]),
    (178, 1, 22, 2, 0, [(3, 182)])])
-- 75: "RainOrgan" "settings"
def mm_t75 : mm_T := [[(0, .iload_n 1, 1), (1, .ifCond .lt 11, 3), (4, .iload_n 1, 1), (5, .aload_n 0, 1), (6, .invokevirtual 182, 3), (9, .if_icmp .lt 5, 3), (12, .iconst (-1), 1), (13, .ireturn, 1), (14, .aload_n 0, 1), (15, .getfield 31, 3), (18, .aload_n 0, 1), (19, .getfield 24, 3), (22, .getfield 111, 3), (25, .invokevirtual 186, 3), (28, .istore_n 2, 1), (29, .aload_n 0, 1), (30, .getfield 31, 3)],
   [(33, .aload_n 0, 1), (34, .getfield 24, 3), (37, .getfield 111, 3), (40, .iload_n 1, 1), (41, .invokevirtual 190, 3), (44, .iload_n 2, 1), (45, .ireturn, 1)]]
def mm_r75 : mm_R := ((yX9_settings, cX9_settings, 3, (some .int), 1, false, [(3, 187), (1, 1), (3, 188)], (3, 189)),
   RX9, mm_t75, [(24, 0, 9, 2, 0, [(2, 156)]),
    (31, 0, 9, 3, 0, [(2, 157)]),
    (111, 0, 4, 3, 0, [(1, 68)]),
    (182, 1, 114, 9, 0, [(3, 190)]),
    (186, 1, 55, 6, 0, [(3, 194)]),
    (190, 1, 56, 6, 0, [(3, 198)])])
-- 76: "RainOrgan" "rain"
def mm_t76 : mm_T := [[(0, .iload_n 1, 1), (1, .invokestatic 194, 3), (4, .ifCond .ne 5, 3), (7, .iconst (-1), 1), (8, .ireturn, 1), (9, .aload_n 0, 1), (10, .getfield 38, 3), (13, .aload_n 0, 1), (14, .getfield 24, 3), (17, .aload_n 0, 1), (18, .getfield 31, 3), (21, .iload_n 1, 1), (22, .invokevirtual 197, 3), (25, .ireturn, 1)]]
def mm_r76 : mm_R := ((yX9_rain, cX9_rain, 2, (some .int), 1, false, [(3, 203), (1, 1), (3, 204)], (3, 205)),
   RX9, mm_t76, [(24, 0, 9, 2, 0, [(2, 156)]),
    (31, 0, 9, 3, 0, [(2, 157)]),
    (38, 0, 9, 4, 2, [(2, 158)]),
    (194, 2, 109, 9, 0, [(3, 206)]),
    (197, 1, 12, 2, 0, [(3, 209)])])
-- 77: "RainOrgan" "dry"
def mm_t77 : mm_T := [[(0, .aload_n 0, 1), (1, .getfield 38, 3), (4, .getfield 201, 3), (7, .istore_n 1, 1), (8, .aload_n 0, 1), (9, .getfield 38, 3), (12, .invokevirtual 101, 3), (15, .iload_n 1, 1), (16, .ireturn, 1)]]
def mm_r77 : mm_R := ((yX9_dry, cX9_dry, 2, (some .int), 0, false, [(4, 14), (1, 1), (4, 15)], (4, 16)),
   RX9, mm_t77, [(38, 0, 9, 4, 2, [(2, 158)]),
    (101, 1, 10, 2, 0, [(3, 133)]),
    (201, 0, 2, 5, 0, [(2, 13)])])
-- 78: "RainOrgan" "water"
def mm_t78 : mm_T := [[(0, .iload_n 1, 1), (1, .tableswitch 93 0 5 #[39, 47, 55, 63, 74, 85], 39)],
   [(40, .aload_n 0, 1), (41, .getfield 38, 3), (44, .getfield 201, 3), (47, .ireturn, 1), (48, .aload_n 0, 1), (49, .getfield 38, 3), (52, .getfield 204, 3), (55, .ireturn, 1), (56, .aload_n 0, 1), (57, .getfield 38, 3), (60, .getfield 207, 3), (63, .ireturn, 1)],
   [(64, .aload_n 0, 1), (65, .getfield 38, 3), (68, .getfield 164, 3), (71, .invokestatic 210, 3), (74, .ireturn, 1), (75, .aload_n 0, 1), (76, .getfield 38, 3), (79, .getfield 175, 3), (82, .invokestatic 210, 3), (85, .ireturn, 1), (86, .aload_n 0, 1), (87, .getfield 38, 3), (90, .getfield 214, 3), (93, .ireturn, 1), (94, .iconst (-1), 1), (95, .ireturn, 1)]]
def mm_r78 : mm_R := ((yX9_water, cX9_water, 2, (some .int), 1, false, [(4, 18), (1, 1), (4, 19)], (4, 20)),
   RX9, mm_t78, [(38, 0, 9, 4, 2, [(2, 158)]),
    (164, 0, 2, 0, 2, [(2, 4)]),
    (175, 0, 2, 3, 2, [(2, 9)]),
    (201, 0, 2, 5, 0, [(2, 13)]),
    (204, 0, 2, 6, 0, [(2, 15)]),
    (207, 0, 2, 7, 0, [(2, 17)]),
    (210, 2, 111, 9, 0, [(4, 21)]),
    (214, 0, 2, 8, 0, [(2, 20)])])
-- 79: "RainOrgan" "loud"
def mm_t79 : mm_T := [[(0, .aload_n 0, 1), (1, .iload_n 1, 1), (2, .invokevirtual 146, 3), (5, .ifCond .eq 15, 3), (8, .aload_n 0, 1), (9, .getfield 38, 3), (12, .getfield 217, 3), (15, .iload_n 1, 1), (16, .iaload, 1), (17, .goto 4, 3), (20, .iconst (-1), 1), (21, .ireturn, 1)]]
def mm_r79 : mm_R := ((yX9_loud, cX9_loud, 2, (some .int), 1, false, [(4, 25), (1, 1), (4, 26)], (4, 27)),
   RX9, mm_t79, [(38, 0, 9, 4, 2, [(2, 158)]),
    (146, 1, 104, 9, 0, [(3, 161)]),
    (217, 0, 2, 4, 2, [(2, 11)])])
-- 80: "RainOrgan" "shower"
def mm_t80 : mm_T := [[(0, .aload_n 0, 1), (1, .iload_n 1, 1), (2, .invokevirtual 220, 3), (5, .ifCond .eq 21, 3), (8, .iload_n 2, 1), (9, .iconst (-1), 1), (10, .if_icmp .lt 16, 3), (13, .iload_n 2, 1), (14, .aload_n 0, 1), (15, .getfield 31, 3), (18, .getfield 223, 3), (21, .iload_n 1, 1), (22, .iaload, 1), (23, .if_icmp .lt 5, 3), (26, .iconst (-1), 1), (27, .ireturn, 1), (28, .iload_n 2, 1), (29, .iconst (-1), 1), (30, .if_icmp .ne 15, 3)],
   [(33, .aload_n 0, 1), (34, .getfield 31, 3), (37, .getfield 223, 3), (40, .iload_n 1, 1), (41, .iaload, 1), (42, .goto 14, 3), (45, .aload_n 0, 1), (46, .getfield 31, 3), (49, .getfield 226, 3), (52, .iload_n 1, 1), (53, .aaload, 1), (54, .iload_n 2, 1), (55, .iaload, 1), (56, .ireturn, 1)]]
def mm_r80 : mm_R := ((yX9_shower, cX9_shower, 3, (some .int), 2, false, [(4, 29), (1, 1), (4, 30)], (4, 31)),
   RX9, mm_t80, [(31, 0, 9, 3, 0, [(2, 157)]),
    (220, 1, 105, 9, 0, [(4, 32)]),
    (223, 0, 6, 3, 2, [(1, 169)]),
    (226, 0, 6, 4, 2, [(1, 173)])])
-- 81: "RainOrgan" "plays"
def mm_t81 : mm_T := [[(0, .aload_n 0, 1), (1, .iload_n 1, 1), (2, .invokevirtual 220, 3), (5, .ifCond .eq 20, 3), (8, .iload_n 2, 1), (9, .ifCond .lt 16, 3), (12, .iload_n 2, 1), (13, .aload_n 0, 1), (14, .getfield 31, 3), (17, .getfield 223, 3), (20, .iload_n 1, 1), (21, .iaload, 1), (22, .if_icmp .lt 5, 3), (25, .iconst (-1), 1), (26, .ireturn, 1), (27, .aload_n 0, 1), (28, .getfield 45, 3), (31, .aload_n 0, 1)],
   [(32, .getfield 24, 3), (35, .aload_n 0, 1), (36, .getfield 31, 3), (39, .iload_n 1, 1), (40, .invokevirtual 230, 3), (43, .aload_n 0, 1), (44, .getfield 45, 3), (47, .getfield 234, 3), (50, .iload_n 2, 1), (51, .iaload, 1), (52, .ireturn, 1)]]
def mm_r81 : mm_R := ((yX9_plays, cX9_plays, 3, (some .int), 2, false, [(4, 37), (1, 1), (4, 38)], (4, 39)),
   RX9, mm_t81, [(24, 0, 9, 2, 0, [(2, 156)]),
    (31, 0, 9, 3, 0, [(2, 157)]),
    (45, 0, 9, 5, 2, [(2, 159)]),
    (220, 1, 105, 9, 0, [(4, 32)]),
    (223, 0, 6, 3, 2, [(1, 169)]),
    (230, 1, 5, 1, 0, [(4, 40)]),
    (234, 0, 1, 1, 2, [(2, 62)])])
-- 82: "RainOrgan" "falls"
def mm_t82 : mm_T := [[(0, .aload_n 0, 1), (1, .iload_n 1, 1), (2, .invokevirtual 220, 3), (5, .ifCond .eq 13, 3), (8, .iload_n 2, 1), (9, .ifCond .lt 9, 3), (12, .iload_n 2, 1), (13, .bipush 7, 2), (15, .if_icmp .le 5, 3), (18, .iconst (-1), 1), (19, .ireturn, 1), (20, .aload_n 0, 1), (21, .getfield 45, 3), (24, .aload_n 0, 1), (25, .getfield 24, 3), (28, .aload_n 0, 1), (29, .getfield 31, 3)],
   [(32, .iload_n 1, 1), (33, .invokevirtual 230, 3), (36, .aload_n 0, 1), (37, .getfield 45, 3), (40, .getfield 235, 3), (43, .astore_n 3, 1), (44, .iload_n 2, 1), (45, .tableswitch 91 0 6 #[43, 48, 53, 61, 69, 74, 82], 43)],
   [(88, .aload_n 3, 1), (89, .getfield 204, 3), (92, .ireturn, 1), (93, .aload_n 3, 1), (94, .getfield 207, 3)],
   [(97, .ireturn, 1), (98, .aload_n 3, 1), (99, .getfield 164, 3), (102, .invokestatic 210, 3), (105, .ireturn, 1), (106, .aload_n 3, 1), (107, .getfield 175, 3), (110, .invokestatic 210, 3), (113, .ireturn, 1), (114, .aload_n 3, 1), (115, .getfield 214, 3), (118, .ireturn, 1), (119, .aload_n 0, 1), (120, .getfield 45, 3), (123, .invokevirtual 238, 3), (126, .ireturn, 1), (127, .aload_n 3, 1)],
   [(128, .aload_n 0, 1), (129, .getfield 24, 3), (132, .invokevirtual 241, 3), (135, .ireturn, 1), (136, .aload_n 0, 1), (137, .invokevirtual 245, 3), (140, .aload_n 3, 1), (141, .getfield 248, 3), (144, .iconst (-1), 1), (145, .ixor, 1), (146, .iand, 1), (147, .ireturn, 1)]]
def mm_r82 : mm_R := ((yX9_falls, cX9_falls, 4, (some .int), 2, false, [(4, 47), (1, 1), (4, 48)], (4, 49)),
   RX9, mm_t82, [(24, 0, 9, 2, 0, [(2, 156)]),
    (31, 0, 9, 3, 0, [(2, 157)]),
    (45, 0, 9, 5, 2, [(2, 159)]),
    (164, 0, 2, 0, 2, [(2, 4)]),
    (175, 0, 2, 3, 2, [(2, 9)]),
    (204, 0, 2, 6, 0, [(2, 15)]),
    (207, 0, 2, 7, 0, [(2, 17)]),
    (210, 2, 111, 9, 0, [(4, 21)]),
    (214, 0, 2, 8, 0, [(2, 20)]),
    (220, 1, 105, 9, 0, [(4, 32)]),
    (230, 1, 5, 1, 0, [(4, 40)]),
    (235, 0, 1, 0, 2, [(2, 60)]),
    (238, 1, 7, 1, 0, [(4, 50)]),
    (241, 1, 24, 2, 0, [(4, 54)]),
    (245, 1, 112, 9, 0, [(4, 58)]),
    (248, 0, 2, 9, 0, [(2, 22)])])
-- 83: "RainOrgan" "tune"
def mm_t83 : mm_T := [[(0, .iload_n 1, 1), (1, .ifCond .lt 26, 3), (4, .iload_n 1, 1), (5, .aload_n 0, 1), (6, .getfield 31, 3), (9, .getfield 120, 3), (12, .if_icmp .ge 15, 3), (15, .aload_n 0, 1), (16, .getfield 31, 3), (19, .getfield 251, 3), (22, .iload_n 1, 1), (23, .iaload, 1), (24, .goto 4, 3), (27, .iconst (-1), 1), (28, .ireturn, 1)]]
def mm_r83 : mm_R := ((yX9_tune, cX9_tune, 2, (some .int), 1, false, [(4, 63), (1, 1), (4, 64)], (4, 65)),
   RX9, mm_t83, [(31, 0, 9, 3, 0, [(2, 157)]),
    (120, 0, 6, 6, 0, [(1, 180)]),
    (251, 0, 6, 5, 2, [(1, 177)])])
-- 84: "RainOrgan" "tells"
def mm_t84 : mm_T := [[(0, .iload_n 1, 1), (1, .ifCond .lt 25, 3), (4, .iload_n 1, 1), (5, .aload_n 0, 1), (6, .getfield 31, 3), (9, .getfield 120, 3), (12, .if_icmp .gt 14, 3), (15, .iload_n 2, 1), (16, .ifCond .lt 10, 3), (19, .iload_n 2, 1), (20, .sipush 255, 3), (23, .if_icmp .le 5, 3), (26, .iconst (-1), 1), (27, .ireturn, 1), (28, .iload_n 1, 1), (29, .bipush 12, 2), (31, .if_icmp .lt 6, 3)],
   [(34, .bipush (-3), 2), (36, .ireturn, 1), (37, .aload_n 0, 1), (38, .getfield 31, 3), (41, .getfield 251, 3), (44, .iload_n 1, 1), (45, .iload_n 2, 1), (46, .iastore, 1), (47, .iload_n 1, 1), (48, .aload_n 0, 1), (49, .getfield 31, 3), (52, .getfield 120, 3), (55, .if_icmp .ne 16, 3), (58, .aload_n 0, 1), (59, .getfield 31, 3), (62, .dup, 1), (63, .getfield 120, 3)],
   [(66, .iconst 1, 1), (67, .iadd, 1), (68, .putfield 120, 3), (71, .aload_n 0, 1), (72, .getfield 31, 3), (75, .getfield 120, 3), (78, .ireturn, 1)]]
def mm_r84 : mm_R := ((yX9_tells, cX9_tells, 3, (some .int), 2, false, [(4, 67), (1, 1), (4, 68)], (4, 69)),
   RX9, mm_t84, [(31, 0, 9, 3, 0, [(2, 157)]),
    (120, 0, 6, 6, 0, [(1, 180)]),
    (251, 0, 6, 5, 2, [(1, 177)])])
-- 85: "RainOrgan" "far"
def mm_t85 : mm_T := [[(0, .aload_n 0, 1), (1, .iload_n 1, 1), (2, .invokevirtual 220, 3), (5, .ifCond .eq 11, 3), (8, .aload_n 0, 1), (9, .iload_n 1, 1), (10, .invokevirtual 254, 3), (13, .goto 4, 3), (16, .iconst (-1), 1), (17, .ireturn, 1)]]
def mm_r85 : mm_R := ((yX9_far, cX9_far, 2, (some .int), 1, false, [(4, 71), (1, 1), (4, 72)], (4, 73)),
   RX9, mm_t85, [(220, 1, 105, 9, 0, [(4, 32)]),
    (254, 1, 115, 9, 0, [(4, 74)])])
-- 86: "RainOrgan" "best"
def mm_t86 : mm_T := [[(0, .aload_n 0, 1), (1, .iload_n 1, 1), (2, .invokevirtual 220, 3), (5, .ifCond .eq 12, 3), (8, .iload_n 2, 1), (9, .ifCond .lt 8, 3), (12, .iload_n 2, 1), (13, .iconst 2, 1), (14, .if_icmp .le 5, 3), (17, .iconst (-1), 1), (18, .ireturn, 1), (19, .aload_n 0, 1), (20, .iload_n 1, 1), (21, .iconst 0, 1), (22, .invokevirtual 257, 3), (25, .iload_n 2, 1), (26, .lookupswitch 42 #[(0, 26), (1, 34)], 26)],
   [(52, .aload_n 0, 1), (53, .getfield 52, 3), (56, .getfield 261, 3), (59, .ireturn, 1), (60, .aload_n 0, 1), (61, .getfield 52, 3)],
   [(64, .getfield 264, 3), (67, .ireturn, 1), (68, .aload_n 0, 1), (69, .getfield 52, 3), (72, .getfield 267, 3), (75, .ireturn, 1)]]
def mm_r86 : mm_R := ((yX9_best, cX9_best, 3, (some .int), 2, false, [(4, 89), (1, 1), (4, 90)], (4, 91)),
   RX9, mm_t86, [(52, 0, 9, 6, 2, [(2, 160)]),
    (220, 1, 105, 9, 0, [(4, 32)]),
    (257, 1, 116, 9, 0, [(4, 92)]),
    (261, 0, 0, 0, 0, [(2, 81)]),
    (264, 0, 0, 1, 0, [(2, 83)]),
    (267, 0, 0, 2, 0, [(2, 85)])])
-- 87: "RainOrgan" "fewest"
def mm_t87 : mm_T := [[(0, .aload_n 0, 1), (1, .iload_n 1, 1), (2, .invokevirtual 220, 3), (5, .ifCond .eq 12, 3), (8, .iload_n 2, 1), (9, .ifCond .lt 8, 3), (12, .iload_n 2, 1), (13, .iconst 1, 1), (14, .if_icmp .le 5, 3), (17, .iconst (-1), 1), (18, .ireturn, 1), (19, .aload_n 0, 1), (20, .iload_n 1, 1), (21, .iconst 0, 1), (22, .invokevirtual 257, 3), (25, .iload_n 2, 1), (26, .ifCond .ne 13, 3), (29, .aload_n 0, 1), (30, .getfield 52, 3)],
   [(33, .getfield 270, 3), (36, .goto 10, 3), (39, .aload_n 0, 1), (40, .getfield 52, 3), (43, .getfield 273, 3), (46, .ireturn, 1)]]
def mm_r87 : mm_R := ((yX9_fewest, cX9_fewest, 3, (some .int), 2, false, [(4, 113), (1, 1), (4, 114)], (4, 115)),
   RX9, mm_t87, [(52, 0, 9, 6, 2, [(2, 160)]),
    (220, 1, 105, 9, 0, [(4, 32)]),
    (257, 1, 116, 9, 0, [(4, 92)]),
    (270, 0, 0, 4, 0, [(2, 89)]),
    (273, 0, 0, 5, 0, [(2, 91)])])
-- 88: "RainOrgan" "all"
def mm_t88 : mm_T := [[(0, .iload_n 1, 1), (1, .ifCond .lt 8, 3), (4, .iload_n 1, 1), (5, .iconst 1, 1), (6, .if_icmp .le 5, 3), (9, .iconst (-1), 1), (10, .ireturn, 1), (11, .aload_n 0, 1), (12, .getfield 24, 3), (15, .getfield 117, 3), (18, .ifCond .ne 6, 3), (21, .bipush (-2), 2), (23, .ireturn, 1), (24, .aload_n 0, 1), (25, .invokevirtual 276, 3), (28, .iload_n 1, 1), (29, .ifCond .ne 13, 3)],
   [(32, .aload_n 0, 1), (33, .getfield 52, 3), (36, .getfield 261, 3), (39, .goto 10, 3), (42, .aload_n 0, 1), (43, .getfield 52, 3), (46, .getfield 264, 3), (49, .ireturn, 1)]]
def mm_r88 : mm_R := ((yX9_all, cX9_all, 2, (some .int), 1, false, [(4, 117), (1, 1), (4, 118)], (4, 119)),
   RX9, mm_t88, [(24, 0, 9, 2, 0, [(2, 156)]),
    (52, 0, 9, 6, 2, [(2, 160)]),
    (117, 0, 4, 10, 0, [(1, 95)]),
    (261, 0, 0, 0, 0, [(2, 81)]),
    (264, 0, 0, 1, 0, [(2, 83)]),
    (276, 1, 117, 9, 0, [(4, 120)])])
-- 89: "RainOrgan" "quiet"
def mm_t89 : mm_T := [[(0, .aload_n 0, 1), (1, .iload_n 1, 1), (2, .invokevirtual 220, 3), (5, .ifCond .eq 12, 3), (8, .iload_n 2, 1), (9, .ifCond .lt 8, 3), (12, .iload_n 2, 1), (13, .iconst 2, 1), (14, .if_icmp .le 5, 3), (17, .iconst (-1), 1), (18, .ireturn, 1), (19, .aload_n 0, 1), (20, .iload_n 1, 1), (21, .iconst 1, 1), (22, .invokevirtual 257, 3), (25, .iload_n 2, 1), (26, .iconst 2, 1), (27, .if_icmp .ne 11, 3), (30, .aload_n 0, 1), (31, .getfield 52, 3)],
   [(34, .getfield 279, 3), (37, .ireturn, 1), (38, .aload_n 0, 1), (39, .getfield 52, 3), (42, .getfield 279, 3), (45, .ifCond .ne 6, 3), (48, .bipush (-4), 2), (50, .ireturn, 1), (51, .iload_n 2, 1), (52, .ifCond .ne 13, 3), (55, .aload_n 0, 1), (56, .getfield 52, 3), (59, .getfield 261, 3), (62, .goto 10, 3)],
   [(65, .aload_n 0, 1), (66, .getfield 52, 3), (69, .getfield 264, 3), (72, .ireturn, 1)]]
def mm_r89 : mm_R := ((yX9_quiet, cX9_quiet, 3, (some .int), 2, false, [(4, 125), (1, 1), (4, 126)], (4, 127)),
   RX9, mm_t89, [(52, 0, 9, 6, 2, [(2, 160)]),
    (220, 1, 105, 9, 0, [(4, 32)]),
    (257, 1, 116, 9, 0, [(4, 92)]),
    (261, 0, 0, 0, 0, [(2, 81)]),
    (264, 0, 0, 1, 0, [(2, 83)]),
    (279, 0, 0, 3, 0, [(2, 87)])])
-- 90: "RainOrgan" "woken"
def mm_t90 : mm_T := [[(0, .aload_n 0, 1), (1, .iload_n 1, 1), (2, .invokevirtual 220, 3), (5, .ifCond .ne 5, 3), (8, .iconst (-1), 1), (9, .ireturn, 1), (10, .aload_n 0, 1), (11, .getfield 45, 3), (14, .aload_n 0, 1), (15, .getfield 24, 3), (18, .aload_n 0, 1), (19, .getfield 31, 3), (22, .iload_n 1, 1), (23, .invokevirtual 230, 3), (26, .aload_n 0, 1), (27, .getfield 45, 3), (30, .aload_n 0, 1), (31, .getfield 24, 3)],
   [(34, .invokevirtual 282, 3), (37, .ireturn, 1)]]
def mm_r90 : mm_R := ((yX9_woken, cX9_woken, 2, (some .int), 1, false, [(4, 129), (1, 1), (4, 130)], (4, 131)),
   RX9, mm_t90, [(24, 0, 9, 2, 0, [(2, 156)]),
    (31, 0, 9, 3, 0, [(2, 157)]),
    (45, 0, 9, 5, 2, [(2, 159)]),
    (220, 1, 105, 9, 0, [(4, 32)]),
    (230, 1, 5, 1, 0, [(4, 40)]),
    (282, 1, 8, 1, 0, [(4, 100)])])
-- 91: "RainOrgan" "heard"
def mm_t91 : mm_T := [[(0, .iload_n 1, 1), (1, .ifCond .lt 8, 3), (4, .iload_n 1, 1), (5, .iconst 1, 1), (6, .if_icmp .le 5, 3), (9, .iconst (-1), 1), (10, .ireturn, 1), (11, .aload_n 0, 1), (12, .getfield 31, 3), (15, .getfield 120, 3), (18, .istore_n 2, 1), (19, .iload_n 2, 1), (20, .iconst 1, 1), (21, .if_icmp .lt 8, 3), (24, .iload_n 2, 1), (25, .iconst 5, 1), (26, .if_icmp .le 6, 3), (29, .bipush (-2), 2), (31, .ireturn, 1)],
   [(32, .iconst 0, 1), (33, .istore_n 3, 1), (34, .bipush (-4), 2), (36, .istore 4, 2), (38, .iconst 1, 1), (39, .iconst 2, 1), (40, .iload_n 2, 1), (41, .imul, 1), (42, .ishl, 1), (43, .istore 5, 2), (45, .iconst 0, 1), (46, .istore 6, 2), (48, .iload 6, 2), (50, .iload 5, 2), (52, .if_icmp .ge 37, 3), (55, .aload_n 0, 1), (56, .iload 6, 2), (58, .invokevirtual 285, 3), (61, .ifCond .eq 22, 3)],
   [(64, .iinc 3 1, 3), (67, .iload 4, 2), (69, .bipush (-4), 2), (71, .if_icmp .ne 8, 3), (74, .iload 6, 2), (76, .goto 5, 3), (79, .iload 4, 2), (81, .istore 4, 2), (83, .iinc 6 1, 3), (86, .goto (-38), 3), (89, .iload_n 1, 1), (90, .ifCond .ne 7, 3), (93, .iload_n 3, 1), (94, .goto 5, 3)],
   [(97, .iload 4, 2), (99, .ireturn, 1)]]
def mm_r91 : mm_R := ((yX9_heard, cX9_heard, 7, (some .int), 1, false, [(4, 133), (1, 1), (4, 134)], (4, 135)),
   RX9, mm_t91, [(31, 0, 9, 3, 0, [(2, 157)]),
    (120, 0, 6, 6, 0, [(1, 180)]),
    (285, 1, 118, 9, 0, [(4, 136)])])
-- 92: "RainOrgan" "blocked"
def mm_t92 : mm_T := [[(0, .aload_n 0, 1), (1, .iload_n 1, 1), (2, .invokevirtual 220, 3), (5, .ifCond .ne 5, 3), (8, .iconst (-1), 1), (9, .ireturn, 1), (10, .aload_n 0, 1), (11, .iload_n 1, 1), (12, .invokevirtual 254, 3), (15, .ifCond .ne 8, 3), (18, .bipush 32, 2), (20, .goto 4, 3), (23, .iconst 0, 1), (24, .istore_n 2, 1), (25, .iconst 0, 1), (26, .istore_n 3, 1), (27, .iload_n 3, 1), (28, .aload_n 0, 1), (29, .getfield 24, 3)],
   [(32, .getfield 111, 3), (35, .if_icmp .ge 59, 3), (38, .aload_n 0, 1), (39, .getfield 31, 3), (42, .getfield 143, 3), (45, .iload_n 3, 1), (46, .iaload, 1), (47, .ifCond .ne 41, 3), (50, .aload_n 0, 1), (51, .getfield 31, 3), (54, .getfield 143, 3), (57, .iload_n 3, 1), (58, .iconst 1, 1), (59, .iastore, 1), (60, .iload_n 2, 1), (61, .aload_n 0, 1), (62, .iload_n 1, 1), (63, .invokevirtual 254, 3)],
   [(66, .ifCond .ne 9, 3), (69, .iconst 1, 1), (70, .iload_n 3, 1), (71, .ishl, 1), (72, .goto 4, 3), (75, .iconst 0, 1), (76, .ior, 1), (77, .istore_n 2, 1), (78, .aload_n 0, 1), (79, .getfield 31, 3), (82, .getfield 143, 3), (85, .iload_n 3, 1), (86, .iconst 0, 1), (87, .iastore, 1), (88, .iinc 3 1, 3), (91, .goto (-64), 3), (94, .iload_n 2, 1), (95, .ireturn, 1)]]
def mm_r92 : mm_R := ((yX9_blocked, cX9_blocked, 4, (some .int), 1, false, [(4, 141), (1, 1), (4, 142)], (4, 143)),
   RX9, mm_t92, [(24, 0, 9, 2, 0, [(2, 156)]),
    (31, 0, 9, 3, 0, [(2, 157)]),
    (111, 0, 4, 3, 0, [(1, 68)]),
    (143, 0, 6, 1, 2, [(1, 161)]),
    (220, 1, 105, 9, 0, [(4, 32)]),
    (254, 1, 115, 9, 0, [(4, 74)])])
-- 93: "RainOrgan" "frozen"
def mm_t93 : mm_T := [[(0, .aload_n 0, 1), (1, .iload_n 1, 1), (2, .invokevirtual 220, 3), (5, .ifCond .ne 5, 3), (8, .iconst (-1), 1), (9, .ireturn, 1), (10, .iconst 0, 1), (11, .istore_n 2, 1), (12, .iconst 0, 1), (13, .istore_n 3, 1), (14, .iload_n 3, 1), (15, .aload_n 0, 1), (16, .getfield 24, 3), (19, .getfield 114, 3), (22, .if_icmp .ge 65, 3), (25, .aload_n 0, 1), (26, .getfield 31, 3), (29, .getfield 149, 3)],
   [(32, .iload_n 3, 1), (33, .iaload, 1), (34, .istore 4, 2), (36, .iload 4, 2), (38, .iconst 5, 1), (39, .if_icmp .eq 42, 3), (42, .aload_n 0, 1), (43, .getfield 31, 3), (46, .getfield 149, 3), (49, .iload_n 3, 1), (50, .iconst 5, 1), (51, .iastore, 1), (52, .iload_n 2, 1), (53, .aload_n 0, 1), (54, .iload_n 1, 1), (55, .invokevirtual 254, 3), (58, .ifCond .ne 9, 3), (61, .iconst 1, 1), (62, .iload_n 3, 1), (63, .ishl, 1)],
   [(64, .goto 4, 3), (67, .iconst 0, 1), (68, .ior, 1), (69, .istore_n 2, 1), (70, .aload_n 0, 1), (71, .getfield 31, 3), (74, .getfield 149, 3), (77, .iload_n 3, 1), (78, .iload 4, 2), (80, .iastore, 1), (81, .iinc 3 1, 3), (84, .goto (-70), 3), (87, .iload_n 2, 1), (88, .ireturn, 1)]]
def mm_r93 : mm_R := ((yX9_frozen, cX9_frozen, 5, (some .int), 1, false, [(4, 145), (1, 1), (4, 146)], (4, 147)),
   RX9, mm_t93, [(24, 0, 9, 2, 0, [(2, 156)]),
    (31, 0, 9, 3, 0, [(2, 157)]),
    (114, 0, 4, 6, 0, [(1, 79)]),
    (149, 0, 6, 2, 2, [(1, 163)]),
    (220, 1, 105, 9, 0, [(4, 32)]),
    (254, 1, 115, 9, 0, [(4, 74)])])
-- 94: "RainOrgan" "lasts"
def mm_t94 : mm_T := [[(0, .aload_n 0, 1), (1, .iload_n 1, 1), (2, .invokevirtual 220, 3), (5, .ifCond .eq 11, 3), (8, .aload_n 0, 1), (9, .iload_n 2, 1), (10, .invokevirtual 146, 3), (13, .ifCond .ne 5, 3), (16, .iconst (-1), 1), (17, .ireturn, 1), (18, .aload_n 0, 1), (19, .getfield 45, 3), (22, .getfield 235, 3), (25, .astore_n 3, 1), (26, .aload_n 3, 1), (27, .invokevirtual 101, 3), (30, .iconst 1, 1), (31, .istore 4, 2)],
   [(33, .iload 4, 2), (35, .bipush 99, 2), (37, .if_icmp .gt 72, 3), (40, .iconst 0, 1), (41, .istore 5, 2), (43, .iload 5, 2), (45, .aload_n 0, 1), (46, .getfield 31, 3), (49, .getfield 223, 3), (52, .iload_n 1, 1), (53, .iaload, 1), (54, .if_icmp .ge 34, 3), (57, .aload_n 3, 1), (58, .aload_n 0, 1), (59, .getfield 24, 3), (62, .aload_n 0, 1), (63, .getfield 31, 3)],
   [(66, .aload_n 0, 1), (67, .getfield 31, 3), (70, .getfield 226, 3), (73, .iload_n 1, 1), (74, .aaload, 1), (75, .iload 5, 2), (77, .iaload, 1), (78, .invokevirtual 197, 3), (81, .pop, 1), (82, .iinc 5 1, 3), (85, .goto (-42), 3), (88, .aload_n 3, 1), (89, .aload_n 0, 1), (90, .getfield 24, 3), (93, .iload_n 2, 1), (94, .invokevirtual 171, 3)],
   [(97, .ifCond .eq 6, 3), (100, .iload 4, 2), (102, .ireturn, 1), (103, .iinc 4 1, 3), (106, .goto (-73), 3), (109, .bipush (-4), 2), (111, .ireturn, 1)]]
def mm_r94 : mm_R := ((yX9_lasts, cX9_lasts, 6, (some .int), 2, false, [(4, 149), (1, 1), (4, 150)], (4, 151)),
   RX9, mm_t94, [(24, 0, 9, 2, 0, [(2, 156)]),
    (31, 0, 9, 3, 0, [(2, 157)]),
    (45, 0, 9, 5, 2, [(2, 159)]),
    (101, 1, 10, 2, 0, [(3, 133)]),
    (146, 1, 104, 9, 0, [(3, 161)]),
    (171, 1, 23, 2, 0, [(3, 166)]),
    (197, 1, 12, 2, 0, [(3, 209)]),
    (220, 1, 105, 9, 0, [(4, 32)]),
    (223, 0, 6, 3, 2, [(1, 169)]),
    (226, 0, 6, 4, 2, [(1, 173)]),
    (235, 0, 1, 0, 2, [(2, 60)])])
-- 95: "RainOrgan" "draws"
def mm_t95 : mm_T := [[(0, .aload_n 0, 1), (1, .iload_n 1, 1), (2, .invokevirtual 220, 3), (5, .ifCond .eq 25, 3), (8, .iload_n 2, 1), (9, .iconst 1, 1), (10, .if_icmp .lt 20, 3), (13, .iload_n 2, 1), (14, .bipush 12, 2), (16, .if_icmp .gt 14, 3), (19, .iload_n 3, 1), (20, .iconst 1, 1), (21, .if_icmp .lt 9, 3), (24, .iload_n 3, 1), (25, .bipush 10, 2), (27, .if_icmp .le 5, 3), (30, .iconst (-1), 1), (31, .ireturn, 1)],
   [(32, .iload 4, 2), (34, .istore 5, 2), (36, .iconst 0, 1), (37, .istore 6, 2), (39, .iconst 0, 1), (40, .istore 7, 2), (42, .iload 7, 2), (44, .iload_n 2, 1), (45, .if_icmp .ge 55, 3), (48, .iload 5, 2), (50, .ldc_w 288, 3), (53, .imul, 1), (54, .sipush 12345, 3), (57, .iadd, 1), (58, .istore 5, 2), (60, .iload 5, 2), (62, .bipush 16, 2)],
   [(64, .iushr, 1), (65, .sipush 32767, 3), (68, .iand, 1), (69, .iload_n 3, 1), (70, .irem, 1), (71, .istore 8, 2), (73, .aload_n 0, 1), (74, .getfield 31, 3), (77, .getfield 226, 3), (80, .iload_n 1, 1), (81, .aaload, 1), (82, .iload 7, 2), (84, .iload 8, 2), (86, .iastore, 1), (87, .iload 6, 2), (89, .iload 8, 2), (91, .iadd, 1), (92, .istore 6, 2), (94, .iinc 7 1, 3)],
   [(97, .goto (-55), 3), (100, .aload_n 0, 1), (101, .getfield 31, 3), (104, .getfield 223, 3), (107, .iload_n 1, 1), (108, .iload_n 2, 1), (109, .iastore, 1), (110, .iload 6, 2), (112, .ireturn, 1)]]
def mm_r95 : mm_R := ((yX9_draws, cX9_draws, 9, (some .int), 4, false, [(4, 153), (1, 1), (4, 154)], (4, 155)),
   RX9, mm_t95, [(31, 0, 9, 3, 0, [(2, 157)]),
    (220, 1, 105, 9, 0, [(4, 32)]),
    (223, 0, 6, 3, 2, [(1, 169)]),
    (226, 0, 6, 4, 2, [(1, 173)]),
    (288, 10, 0, 0, 1103515245, [(4, 156)])])
-- 96: "RainOrgan" "keep"
def mm_t96 : mm_T := [[(0, .iload_n 1, 1), (1, .invokestatic 289, 3), (4, .ifCond .ne 5, 3), (7, .iconst (-1), 1), (8, .ireturn, 1), (9, .aload_n 0, 1), (10, .getfield 58, 3), (13, .iload_n 1, 1), (14, .aaload, 1), (15, .astore_n 2, 1), (16, .aload_n 2, 1), (17, .getfield 104, 3), (20, .ifCond .eq 7, 3), (23, .iconst 1, 1), (24, .goto 4, 3), (27, .iconst 0, 1), (28, .istore_n 3, 1), (29, .aload_n 2, 1), (30, .iconst 1, 1), (31, .putfield 104, 3)],
   [(34, .aload_n 2, 1), (35, .getfield 292, 3), (38, .aload_n 0, 1), (39, .getfield 31, 3), (42, .invokevirtual 293, 3), (45, .aload_n 2, 1), (46, .getfield 297, 3), (49, .aload_n 0, 1), (50, .getfield 38, 3), (53, .invokevirtual 298, 3), (56, .iload_n 3, 1), (57, .ireturn, 1)]]
def mm_r96 : mm_R := ((yX9_keep, cX9_keep, 4, (some .int), 1, false, [(4, 158), (1, 1), (4, 159)], (4, 160)),
   RX9, mm_t96, [(31, 0, 9, 3, 0, [(2, 157)]),
    (38, 0, 9, 4, 2, [(2, 158)]),
    (58, 0, 9, 7, 2, [(2, 161)]),
    (104, 0, 3, 2, 0, [(2, 128)]),
    (289, 2, 106, 9, 0, [(4, 161)]),
    (292, 0, 3, 0, 2, [(2, 125)]),
    (293, 1, 54, 6, 0, [(4, 164)]),
    (297, 0, 3, 1, 2, [(2, 127)]),
    (298, 1, 11, 2, 0, [(4, 169)])])
-- 97: "RainOrgan" "back"
def mm_t97 : mm_T := [[(0, .iload_n 1, 1), (1, .invokestatic 289, 3), (4, .ifCond .ne 5, 3), (7, .iconst (-1), 1), (8, .ireturn, 1), (9, .aload_n 0, 1), (10, .getfield 58, 3), (13, .iload_n 1, 1), (14, .aaload, 1), (15, .astore_n 2, 1), (16, .aload_n 2, 1), (17, .getfield 104, 3), (20, .ifCond .ne 6, 3), (23, .bipush (-2), 2), (25, .ireturn, 1), (26, .aload_n 0, 1), (27, .getfield 31, 3), (30, .aload_n 2, 1), (31, .getfield 292, 3)],
   [(34, .invokevirtual 293, 3), (37, .aload_n 0, 1), (38, .getfield 38, 3), (41, .aload_n 2, 1), (42, .getfield 297, 3), (45, .invokevirtual 298, 3), (48, .aload_n 0, 1), (49, .getfield 38, 3), (52, .getfield 201, 3), (55, .ireturn, 1)]]
def mm_r97 : mm_R := ((yX9_back, cX9_back, 3, (some .int), 1, false, [(4, 174), (1, 1), (4, 175)], (4, 176)),
   RX9, mm_t97, [(31, 0, 9, 3, 0, [(2, 157)]),
    (38, 0, 9, 4, 2, [(2, 158)]),
    (58, 0, 9, 7, 2, [(2, 161)]),
    (104, 0, 3, 2, 0, [(2, 128)]),
    (201, 0, 2, 5, 0, [(2, 13)]),
    (289, 2, 106, 9, 0, [(4, 161)]),
    (292, 0, 3, 0, 2, [(2, 125)]),
    (293, 1, 54, 6, 0, [(4, 164)]),
    (297, 0, 3, 1, 2, [(2, 127)]),
    (298, 1, 11, 2, 0, [(4, 169)])])
-- 98: "RainOrgan" "sheet"
def mm_t98 : mm_T := [[(0, .iload_n 1, 1), (1, .invokestatic 301, 3), (4, .ifCond .eq 16, 3), (7, .iload_n 2, 1), (8, .invokestatic 304, 3), (11, .ifCond .eq 9, 3), (14, .iload_n 3, 1), (15, .bipush 40, 2), (17, .if_icmp .le 5, 3), (20, .iconst (-1), 1), (21, .ireturn, 1), (22, .iload_n 3, 1), (23, .ifCond .ge 6, 3), (26, .bipush (-14), 2), (28, .ireturn, 1), (29, .aload_n 0, 1), (30, .getfield 64, 3)],
   [(33, .iload_n 1, 1), (34, .aaload, 1), (35, .iload_n 2, 1), (36, .iload_n 3, 1), (37, .invokevirtual 307, 3), (40, .iconst 1, 1), (41, .ireturn, 1)]]
def mm_r98 : mm_R := ((yX9_sheet, cX9_sheet, 4, (some .int), 3, false, [(4, 178), (1, 1), (4, 179)], (4, 180)),
   RX9, mm_t98, [(64, 0, 9, 8, 2, [(2, 162)]),
    (301, 2, 107, 9, 0, [(4, 181)]),
    (304, 2, 108, 9, 0, [(4, 184)]),
    (307, 1, 59, 7, 0, [(4, 187)])])
-- 99: "RainOrgan" "lay"
def mm_t99 : mm_T := [[(0, .iload_n 1, 1), (1, .invokestatic 301, 3), (4, .ifCond .ne 5, 3), (7, .iconst (-1), 1), (8, .ireturn, 1), (9, .aload_n 0, 1), (10, .getfield 64, 3), (13, .iload_n 1, 1), (14, .aaload, 1), (15, .astore 4, 2), (17, .aload 4, 2), (19, .aload 4, 2), (21, .getfield 310, 3), (24, .iload_n 2, 1), (25, .invokevirtual 313, 3), (28, .istore 5, 2), (30, .iload 5, 2)],
   [(32, .ifCond .eq 9, 3), (35, .bipush (-10), 2), (37, .iload 5, 2), (39, .isub, 1), (40, .ireturn, 1), (41, .aload 4, 2), (43, .iload_n 2, 1), (44, .iload_n 3, 1), (45, .invokevirtual 317, 3), (48, .iconst 1, 1), (49, .ireturn, 1)]]
def mm_r99 : mm_R := ((yX9_lay, cX9_lay, 6, (some .int), 3, false, [(4, 193), (1, 1), (4, 194)], (4, 195)),
   RX9, mm_t99, [(64, 0, 9, 8, 2, [(2, 162)]),
    (301, 2, 107, 9, 0, [(4, 181)]),
    (310, 0, 7, 1, 0, [(2, 144)]),
    (313, 1, 60, 7, 0, [(4, 196)]),
    (317, 1, 61, 7, 0, [(4, 204)])])
-- 100: "RainOrgan" "read"
def mm_t100 : mm_T := [[(0, .iload_n 1, 1), (1, .invokestatic 301, 3), (4, .ifCond .eq 22, 3), (7, .iload_n 2, 1), (8, .invokestatic 304, 3), (11, .ifCond .eq 15, 3), (14, .iload 4, 2), (16, .ifCond .lt 10, 3), (19, .iload 4, 2), (21, .bipush 12, 2), (23, .if_icmp .le 5, 3), (26, .iconst (-1), 1), (27, .ireturn, 1), (28, .aload_n 0, 1), (29, .getfield 64, 3)],
   [(32, .iload_n 1, 1), (33, .aaload, 1), (34, .astore 5, 2), (36, .iconst 0, 1), (37, .istore 6, 2), (39, .iconst 0, 1), (40, .istore 7, 2), (42, .iload 6, 2), (44, .iload 4, 2), (46, .if_icmp .ge 53, 3), (49, .iload 7, 2), (51, .ifCond .ne 48, 3), (54, .aload 5, 2), (56, .iload_n 2, 1), (57, .iload_n 3, 1), (58, .iload 6, 2), (60, .iadd, 1), (61, .invokevirtual 313, 3)],
   [(64, .istore 7, 2), (66, .iload 7, 2), (68, .ifCond .ne (-26), 3), (71, .aload 5, 2), (73, .getfield 320, 3), (76, .iload_n 3, 1), (77, .iload 6, 2), (79, .iadd, 1), (80, .iaload, 1), (81, .invokestatic 194, 3), (84, .ifCond .ne 9, 3), (87, .bipush (-20), 2), (89, .iload 6, 2), (91, .isub, 1), (92, .ireturn, 1), (93, .iinc 6 1, 3)],
   [(96, .goto (-54), 3), (99, .iconst 0, 1), (100, .istore 8, 2), (102, .iload 8, 2), (104, .iload 6, 2), (106, .if_icmp .ge 35, 3), (109, .aload_n 0, 1), (110, .getfield 38, 3), (113, .aload_n 0, 1), (114, .getfield 24, 3), (117, .aload_n 0, 1), (118, .getfield 31, 3), (121, .aload 5, 2), (123, .getfield 320, 3), (126, .iload_n 3, 1), (127, .iload 8, 2)],
   [(129, .iadd, 1), (130, .iaload, 1), (131, .invokevirtual 197, 3), (134, .pop, 1), (135, .iinc 8 1, 3), (138, .goto (-36), 3), (141, .aload_n 0, 1), (142, .iload 7, 2), (144, .putfield 323, 3), (147, .iload 6, 2), (149, .ireturn, 1)]]
def mm_r100 : mm_R := ((yX9_read, cX9_read, 9, (some .int), 4, false, [(4, 209), (1, 1), (4, 210)], (4, 211)),
   RX9, mm_t100, [(24, 0, 9, 2, 0, [(2, 156)]),
    (31, 0, 9, 3, 0, [(2, 157)]),
    (38, 0, 9, 4, 2, [(2, 158)]),
    (64, 0, 9, 8, 2, [(2, 162)]),
    (194, 2, 109, 9, 0, [(3, 206)]),
    (197, 1, 12, 2, 0, [(3, 209)]),
    (301, 2, 107, 9, 0, [(4, 181)]),
    (304, 2, 108, 9, 0, [(4, 184)]),
    (313, 1, 60, 7, 0, [(4, 196)]),
    (320, 0, 7, 0, 2, [(2, 142)]),
    (323, 0, 9, 10, 0, [(2, 164)])])
-- 101: "RainOrgan" "torn"
def mm_t101 : mm_T := [[(0, .aload_n 0, 1), (1, .getfield 323, 3), (4, .ireturn, 1)]]
def mm_r101 : mm_R := ((yX9_torn, cX9_torn, 1, (some .int), 0, false, [(4, 213), (1, 1), (4, 214)], (4, 215)),
   RX9, mm_t101, [(323, 0, 9, 10, 0, [(2, 164)])])
-- 102: "RainOrgan" "count"
def mm_t102 : mm_T := [[(0, .iload_n 1, 1), (1, .tableswitch 101 0 4 #[35, 46, 61, 66, 74], 35)],
   [(36, .aload_n 0, 1), (37, .getfield 31, 3), (40, .getfield 143, 3), (43, .invokestatic 210, 3), (46, .ireturn, 1), (47, .aload_n 0, 1), (48, .getfield 38, 3), (51, .aload_n 0, 1), (52, .getfield 24, 3), (55, .invokevirtual 241, 3), (58, .invokestatic 326, 3), (61, .ireturn, 1), (62, .aload_n 0, 1), (63, .invokevirtual 331, 3)],
   [(66, .ireturn, 1), (67, .aload_n 0, 1), (68, .getfield 20, 3), (71, .getfield 70, 3), (74, .ireturn, 1), (75, .aload_n 0, 1), (76, .getfield 64, 3), (79, .iconst 0, 1), (80, .aaload, 1), (81, .invokevirtual 334, 3), (84, .ifCond .eq 8, 3), (87, .bipush (-4), 2), (89, .goto 12, 3), (92, .aload_n 0, 1), (93, .getfield 64, 3)],
   [(96, .iconst 0, 1), (97, .aaload, 1), (98, .getfield 337, 3), (101, .ireturn, 1), (102, .iconst (-1), 1), (103, .ireturn, 1)]]
def mm_r102 : mm_R := ((yX9_count, cX9_count, 2, (some .int), 1, false, [(4, 217), (1, 1), (4, 218)], (4, 219)),
   RX9, mm_t102, [(20, 0, 9, 1, 2, [(2, 155)]),
    (24, 0, 9, 2, 0, [(2, 156)]),
    (31, 0, 9, 3, 0, [(2, 157)]),
    (38, 0, 9, 4, 2, [(2, 158)]),
    (64, 0, 9, 8, 2, [(2, 162)]),
    (70, 0, 8, 1, 0, [(1, 42)]),
    (143, 0, 6, 1, 2, [(1, 161)]),
    (210, 2, 111, 9, 0, [(4, 21)]),
    (241, 1, 24, 2, 0, [(4, 54)]),
    (326, 2, 192, 0, 0, [(4, 220)]),
    (331, 1, 113, 9, 0, [(4, 221)]),
    (334, 1, 58, 7, 0, [(4, 225)]),
    (337, 0, 7, 2, 0, [(2, 146)])])
-- 103: "RainOrgan" "isGutter"
def mm_t103 : mm_T := [[(0, .iload_n 1, 1), (1, .ifCond .lt 18, 3), (4, .iload_n 1, 1), (5, .aload_n 0, 1), (6, .getfield 24, 3), (9, .getfield 111, 3), (12, .if_icmp .ge 7, 3), (15, .iconst 1, 1), (16, .goto 4, 3), (19, .iconst 0, 1), (20, .ireturn, 1)]]
def mm_r103 : mm_R := ((yX9_isGutter, cX9_isGutter, 2, (some .boolean), 1, false, [(3, 155), (1, 1), (0, 22)], (3, 156)),
   RX9, mm_t103, [(24, 0, 9, 2, 0, [(2, 156)]),
    (111, 0, 4, 3, 0, [(1, 68)])])
-- 104: "RainOrgan" "isSpout"
def mm_t104 : mm_T := [[(0, .iload_n 1, 1), (1, .ifCond .lt 18, 3), (4, .iload_n 1, 1), (5, .aload_n 0, 1), (6, .getfield 24, 3), (9, .getfield 114, 3), (12, .if_icmp .ge 7, 3), (15, .iconst 1, 1), (16, .goto 4, 3), (19, .iconst 0, 1), (20, .ireturn, 1)]]
def mm_r104 : mm_R := ((yX9_isSpout, cX9_isSpout, 2, (some .boolean), 1, false, [(3, 163), (1, 1), (0, 23)], (3, 164)),
   RX9, mm_t104, [(24, 0, 9, 2, 0, [(2, 156)]),
    (114, 0, 4, 6, 0, [(1, 79)])])
-- 105: "RainOrgan" "isShower"
def mm_t105 : mm_T := [[(0, .iload_n 1, 1), (1, .ifCond .lt 18, 3), (4, .iload_n 1, 1), (5, .aload_n 0, 1), (6, .getfield 24, 3), (9, .getfield 117, 3), (12, .if_icmp .ge 7, 3), (15, .iconst 1, 1), (16, .goto 4, 3), (19, .iconst 0, 1), (20, .ireturn, 1)]]
def mm_r105 : mm_R := ((yX9_isShower, cX9_isShower, 2, (some .boolean), 1, false, [(4, 34), (1, 1), (0, 34)], (4, 35)),
   RX9, mm_t105, [(24, 0, 9, 2, 0, [(2, 156)]),
    (117, 0, 4, 10, 0, [(1, 95)])])
-- 106: "RainOrgan" "isImage"
def mm_t106 : mm_T := [[(0, .iload_n 0, 1), (1, .ifCond .lt 12, 3), (4, .iload_n 0, 1), (5, .iconst 2, 1), (6, .if_icmp .ge 7, 3), (9, .iconst 1, 1), (10, .goto 4, 3), (13, .iconst 0, 1), (14, .ireturn, 1)]]
def mm_r106 : mm_R := ((yX9_isImage, cX9_isImage, 1, (some .boolean), 1, true, [(4, 162), (1, 1)], (4, 163)),
   RX9, mm_t106, [])
-- 107: "RainOrgan" "isSheet"
def mm_t107 : mm_T := [[(0, .iload_n 0, 1), (1, .ifCond .lt 12, 3), (4, .iload_n 0, 1), (5, .iconst 4, 1), (6, .if_icmp .ge 7, 3), (9, .iconst 1, 1), (10, .goto 4, 3), (13, .iconst 0, 1), (14, .ireturn, 1)]]
def mm_r107 : mm_R := ((yX9_isSheet, cX9_isSheet, 1, (some .boolean), 1, true, [(4, 182), (1, 1)], (4, 183)),
   RX9, mm_t107, [])
-- 108: "RainOrgan" "isLane"
def mm_t108 : mm_T := [[(0, .iload_n 0, 1), (1, .ifCond .lt 12, 3), (4, .iload_n 0, 1), (5, .iconst 3, 1), (6, .if_icmp .ge 7, 3), (9, .iconst 1, 1), (10, .goto 4, 3), (13, .iconst 0, 1), (14, .ireturn, 1)]]
def mm_r108 : mm_R := ((yX9_isLane, cX9_isLane, 1, (some .boolean), 1, true, [(4, 185), (1, 1)], (4, 186)),
   RX9, mm_t108, [])
-- 109: "RainOrgan" "isRain"
def mm_t109 : mm_T := [[(0, .iload_n 0, 1), (1, .ifCond .lt 13, 3), (4, .iload_n 0, 1), (5, .bipush 9, 2), (7, .if_icmp .gt 7, 3), (10, .iconst 1, 1), (11, .goto 4, 3), (14, .iconst 0, 1), (15, .ireturn, 1)]]
def mm_r109 : mm_R := ((yX9_isRain, cX9_isRain, 1, (some .boolean), 1, true, [(3, 207), (1, 1)], (3, 208)),
   RX9, mm_t109, [])
-- 110: "RainOrgan" "hasSize"
def mm_t110 : mm_T := [[(0, .iload_n 0, 1), (1, .ifCond .eq 12, 3), (4, .iload_n 0, 1), (5, .iconst 5, 1), (6, .if_icmp .eq 7, 3), (9, .iconst 1, 1), (10, .goto 4, 3), (13, .iconst 0, 1), (14, .ireturn, 1)]]
def mm_r110 : mm_R := ((yX9_hasSize, cX9_hasSize, 1, (some .boolean), 1, true, [(3, 99), (1, 1)], (3, 100)),
   RX9, mm_t110, [])
-- 111: "RainOrgan" "sum"
def mm_t111 : mm_T := [[(0, .iconst 0, 1), (1, .istore_n 1, 1), (2, .aload_n 0, 1), (3, .astore_n 2, 1), (4, .aload_n 2, 1), (5, .arraylength, 1), (6, .istore_n 3, 1), (7, .iconst 0, 1), (8, .istore 4, 2), (10, .iload 4, 2), (12, .iload_n 3, 1), (13, .if_icmp .ge 20, 3), (16, .aload_n 2, 1), (17, .iload 4, 2), (19, .iaload, 1), (20, .istore 5, 2), (22, .iload_n 1, 1), (23, .iload 5, 2), (25, .iadd, 1), (26, .istore_n 1, 1), (27, .iinc 4 1, 3), (30, .goto (-20), 3)],
   [(33, .iload_n 1, 1), (34, .ireturn, 1)]]
def mm_r111 : mm_R := ((yX9_sum, cX9_sum, 6, (some .int), 1, true, [(4, 22), (1, 1)], (4, 23)),
   RX9, mm_t111, [])
-- 112: "RainOrgan" "allSpouts"
def mm_t112 : mm_T := [[(0, .iconst 1, 1), (1, .aload_n 0, 1), (2, .getfield 24, 3), (5, .getfield 114, 3), (8, .ishl, 1), (9, .iconst 1, 1), (10, .isub, 1), (11, .ireturn, 1)]]
def mm_r112 : mm_R := ((yX9_allSpouts, cX9_allSpouts, 1, (some .int), 0, false, [(4, 60), (1, 1), (0, 35)], (4, 61)),
   RX9, mm_t112, [(24, 0, 9, 2, 0, [(2, 156)]),
    (114, 0, 4, 6, 0, [(1, 79)])])
-- 113: "RainOrgan" "keptImages"
def mm_t113 : mm_T := [[(0, .iconst 0, 1), (1, .istore_n 1, 1), (2, .iconst 0, 1), (3, .istore_n 2, 1), (4, .iload_n 2, 1), (5, .iconst 2, 1), (6, .if_icmp .ge 29, 3), (9, .iload_n 1, 1), (10, .aload_n 0, 1), (11, .getfield 58, 3), (14, .iload_n 2, 1), (15, .aaload, 1), (16, .getfield 104, 3), (19, .ifCond .eq 7, 3), (22, .iconst 1, 1), (23, .goto 4, 3), (26, .iconst 0, 1), (27, .iadd, 1), (28, .istore_n 1, 1), (29, .iinc 2 1, 3)],
   [(32, .goto (-28), 3), (35, .iload_n 1, 1), (36, .ireturn, 1)]]
def mm_r113 : mm_R := ((yX9_keptImages, cX9_keptImages, 3, (some .int), 0, false, [(4, 223), (1, 1), (0, 41)], (4, 224)),
   RX9, mm_t113, [(58, 0, 9, 7, 2, [(2, 161)]),
    (104, 0, 3, 2, 0, [(2, 128)])])
-- 114: "RainOrgan" "manySettings"
def mm_t114 : mm_T := [[(0, .iconst 1, 1), (1, .istore_n 1, 1), (2, .iconst 0, 1), (3, .istore_n 2, 1), (4, .iload_n 2, 1), (5, .aload_n 0, 1), (6, .getfield 24, 3), (9, .getfield 111, 3), (12, .if_icmp .ge 13, 3), (15, .iload_n 1, 1), (16, .iconst 3, 1), (17, .imul, 1), (18, .istore_n 1, 1), (19, .iinc 2 1, 3), (22, .goto (-18), 3), (25, .iload_n 1, 1), (26, .ireturn, 1)]]
def mm_r114 : mm_R := ((yX9_manySettings, cX9_manySettings, 3, (some .int), 0, false, [(3, 192), (1, 1), (0, 24)], (3, 193)),
   RX9, mm_t114, [(24, 0, 9, 2, 0, [(2, 156)]),
    (111, 0, 4, 3, 0, [(1, 68)])])
-- 115: "RainOrgan" "distance"
def mm_t115 : mm_T := [[(0, .aload_n 0, 1), (1, .getfield 45, 3), (4, .aload_n 0, 1), (5, .getfield 24, 3), (8, .aload_n 0, 1), (9, .getfield 31, 3), (12, .iload_n 1, 1), (13, .invokevirtual 230, 3), (16, .aload_n 0, 1), (17, .getfield 45, 3), (20, .aload_n 0, 1), (21, .getfield 31, 3), (24, .invokevirtual 340, 3), (27, .ireturn, 1)]]
def mm_r115 : mm_R := ((yX9_distance, cX9_distance, 2, (some .int), 1, false, [(4, 76), (1, 1), (0, 36)], (4, 77)),
   RX9, mm_t115, [(24, 0, 9, 2, 0, [(2, 156)]),
    (31, 0, 9, 3, 0, [(2, 157)]),
    (45, 0, 9, 5, 2, [(2, 159)]),
    (230, 1, 5, 1, 0, [(4, 40)]),
    (340, 1, 6, 1, 0, [(4, 78)])])
-- 116: "RainOrgan" "chooseForShower"
def mm_t116 : mm_T := [[(0, .aload_n 0, 1), (1, .getfield 31, 3), (4, .aload_n 0, 1), (5, .getfield 24, 3), (8, .getfield 111, 3), (11, .invokevirtual 186, 3), (14, .istore_n 3, 1), (15, .aload_n 0, 1), (16, .invokevirtual 182, 3), (19, .istore 4, 2), (21, .aload_n 0, 1), (22, .getfield 52, 3), (25, .iload_n 3, 1), (26, .aload_n 0, 1), (27, .getfield 24, 3), (30, .getfield 111, 3)],
   [(33, .invokevirtual 344, 3), (36, .iconst 0, 1), (37, .istore 5, 2), (39, .iload 5, 2), (41, .iload 4, 2), (43, .if_icmp .ge 79, 3), (46, .aload_n 0, 1), (47, .getfield 31, 3), (50, .aload_n 0, 1), (51, .getfield 24, 3), (54, .getfield 111, 3), (57, .iload 5, 2), (59, .invokevirtual 190, 3), (62, .aload_n 0, 1), (63, .getfield 45, 3)],
   [(66, .aload_n 0, 1), (67, .getfield 24, 3), (70, .aload_n 0, 1), (71, .getfield 31, 3), (74, .iload_n 1, 1), (75, .invokevirtual 230, 3), (78, .iload_n 2, 1), (79, .ifCond .eq 17, 3), (82, .aload_n 0, 1), (83, .getfield 45, 3), (86, .aload_n 0, 1), (87, .getfield 24, 3), (90, .invokevirtual 282, 3), (93, .ifCond .ne 23, 3)],
   [(96, .aload_n 0, 1), (97, .getfield 52, 3), (100, .iload 5, 2), (102, .aload_n 0, 1), (103, .getfield 45, 3), (106, .aload_n 0, 1), (107, .getfield 31, 3), (110, .invokevirtual 340, 3), (113, .invokevirtual 346, 3), (116, .iinc 5 1, 3), (119, .goto (-80), 3), (122, .aload_n 0, 1), (123, .getfield 31, 3), (126, .aload_n 0, 1), (127, .getfield 24, 3)],
   [(130, .getfield 111, 3), (133, .iload_n 3, 1), (134, .invokevirtual 190, 3), (137, .return_, 1)]]
def mm_r116 : mm_R := ((yX9_chooseForShower, cX9_chooseForShower, 6, none, 2, false, [(4, 94), (1, 1), (0, 37)], (4, 95)),
   RX9, mm_t116, [(24, 0, 9, 2, 0, [(2, 156)]),
    (31, 0, 9, 3, 0, [(2, 157)]),
    (45, 0, 9, 5, 2, [(2, 159)]),
    (52, 0, 9, 6, 2, [(2, 160)]),
    (111, 0, 4, 3, 0, [(1, 68)]),
    (182, 1, 114, 9, 0, [(3, 190)]),
    (186, 1, 55, 6, 0, [(3, 194)]),
    (190, 1, 56, 6, 0, [(3, 198)]),
    (230, 1, 5, 1, 0, [(4, 40)]),
    (282, 1, 8, 1, 0, [(4, 100)]),
    (340, 1, 6, 1, 0, [(4, 78)]),
    (344, 1, 1, 0, 0, [(4, 96)]),
    (346, 1, 2, 0, 0, [(4, 104)])])
-- 117: "RainOrgan" "chooseForAllShowers"
def mm_t117 : mm_T := [[(0, .aload_n 0, 1), (1, .getfield 31, 3), (4, .aload_n 0, 1), (5, .getfield 24, 3), (8, .getfield 111, 3), (11, .invokevirtual 186, 3), (14, .istore_n 1, 1), (15, .aload_n 0, 1), (16, .invokevirtual 182, 3), (19, .istore_n 2, 1), (20, .aload_n 0, 1), (21, .getfield 52, 3), (24, .iload_n 1, 1), (25, .aload_n 0, 1), (26, .getfield 24, 3), (29, .getfield 111, 3)],
   [(32, .invokevirtual 344, 3), (35, .iconst 0, 1), (36, .istore_n 3, 1), (37, .iload_n 3, 1), (38, .iload_n 2, 1), (39, .if_icmp .ge 91, 3), (42, .aload_n 0, 1), (43, .getfield 31, 3), (46, .aload_n 0, 1), (47, .getfield 24, 3), (50, .getfield 111, 3), (53, .iload_n 3, 1), (54, .invokevirtual 190, 3), (57, .iconst 0, 1), (58, .istore 4, 2), (60, .iconst 0, 1), (61, .istore 5, 2), (63, .iload 5, 2)],
   [(65, .aload_n 0, 1), (66, .getfield 24, 3), (69, .getfield 117, 3), (72, .if_icmp .ge 42, 3), (75, .aload_n 0, 1), (76, .getfield 45, 3), (79, .aload_n 0, 1), (80, .getfield 24, 3), (83, .aload_n 0, 1), (84, .getfield 31, 3), (87, .iload 5, 2), (89, .invokevirtual 230, 3), (92, .iload 4, 2), (94, .aload_n 0, 1), (95, .getfield 45, 3)],
   [(98, .aload_n 0, 1), (99, .getfield 31, 3), (102, .invokevirtual 340, 3), (105, .iadd, 1), (106, .istore 4, 2), (108, .iinc 5 1, 3), (111, .goto (-48), 3), (114, .aload_n 0, 1), (115, .getfield 52, 3), (118, .iload_n 3, 1), (119, .iload 4, 2), (121, .invokevirtual 346, 3), (124, .iinc 3 1, 3), (127, .goto (-90), 3)],
   [(130, .aload_n 0, 1), (131, .getfield 31, 3), (134, .aload_n 0, 1), (135, .getfield 24, 3), (138, .getfield 111, 3), (141, .iload_n 1, 1), (142, .invokevirtual 190, 3), (145, .return_, 1)]]
def mm_r117 : mm_R := ((yX9_chooseForAllShowers, cX9_chooseForAllShowers, 6, none, 0, false, [(4, 122), (1, 1), (0, 39)], (4, 123)),
   RX9, mm_t117, [(24, 0, 9, 2, 0, [(2, 156)]),
    (31, 0, 9, 3, 0, [(2, 157)]),
    (45, 0, 9, 5, 2, [(2, 159)]),
    (52, 0, 9, 6, 2, [(2, 160)]),
    (111, 0, 4, 3, 0, [(1, 68)]),
    (117, 0, 4, 10, 0, [(1, 95)]),
    (182, 1, 114, 9, 0, [(3, 190)]),
    (186, 1, 55, 6, 0, [(3, 194)]),
    (190, 1, 56, 6, 0, [(3, 198)]),
    (230, 1, 5, 1, 0, [(4, 40)]),
    (340, 1, 6, 1, 0, [(4, 78)]),
    (344, 1, 1, 0, 0, [(4, 96)]),
    (346, 1, 2, 0, 0, [(4, 104)])])
-- 118: "RainOrgan" "soundsAsTheTune"
def mm_t118 : mm_T := [[(0, .aload_n 0, 1), (1, .getfield 45, 3), (4, .getfield 235, 3), (7, .astore_n 2, 1), (8, .aload_n 2, 1), (9, .invokevirtual 101, 3), (12, .aload_n 0, 1), (13, .getfield 31, 3), (16, .getfield 120, 3), (19, .istore_n 3, 1), (20, .iconst 0, 1), (21, .istore 4, 2), (23, .iload 4, 2), (25, .iload_n 3, 1), (26, .if_icmp .ge 52, 3), (29, .iload_n 1, 1), (30, .iconst 2, 1), (31, .iload_n 3, 1)],
   [(32, .iconst 1, 1), (33, .isub, 1), (34, .iload 4, 2), (36, .isub, 1), (37, .imul, 1), (38, .iushr, 1), (39, .iconst 3, 1), (40, .iand, 1), (41, .istore 5, 2), (43, .aload_n 2, 1), (44, .aload_n 0, 1), (45, .getfield 24, 3), (48, .aload_n 0, 1), (49, .getfield 31, 3), (52, .iload 5, 2), (54, .invokevirtual 197, 3), (57, .aload_n 0, 1), (58, .getfield 31, 3), (61, .getfield 251, 3)],
   [(64, .iload 4, 2), (66, .iaload, 1), (67, .if_icmp .eq 5, 3), (70, .iconst 0, 1), (71, .ireturn, 1), (72, .iinc 4 1, 3), (75, .goto (-52), 3), (78, .iconst 1, 1), (79, .ireturn, 1)]]
def mm_r118 : mm_R := ((yX9_soundsAsTheTune, cX9_soundsAsTheTune, 6, (some .boolean), 1, false, [(4, 138), (1, 1), (0, 40)], (4, 139)),
   RX9, mm_t118, [(24, 0, 9, 2, 0, [(2, 156)]),
    (31, 0, 9, 3, 0, [(2, 157)]),
    (45, 0, 9, 5, 2, [(2, 159)]),
    (101, 1, 10, 2, 0, [(3, 133)]),
    (120, 0, 6, 6, 0, [(1, 180)]),
    (197, 1, 12, 2, 0, [(3, 209)]),
    (235, 0, 1, 0, 2, [(2, 60)]),
    (251, 0, 6, 5, 2, [(1, 177)])])
-- 119: "RainOrganModel" "<init>"
def mm_t119 : mm_T := [[(0, .aload_n 0, 1), (1, .invokespecial 1, 3), (4, .aload_n 0, 1), (5, .sipush 700, 3), (8, .newarray .int, 2), (10, .putfield 7, 3), (13, .aload_n 0, 1), (14, .bipush 8, 2), (16, .newarray .int, 2), (18, .putfield 13, 3), (21, .aload_n 0, 1), (22, .bipush 10, 2), (24, .newarray .int, 2), (26, .putfield 16, 3), (29, .aload_n 0, 1), (30, .bipush 8, 2)],
   [(32, .newarray .int, 2), (34, .putfield 19, 3), (37, .aload_n 0, 1), (38, .bipush 12, 2), (40, .newarray .int, 2), (42, .putfield 22, 3), (45, .aload_n 0, 1), (46, .sipush 140, 3), (49, .newarray .int, 2), (51, .putfield 25, 3), (54, .aload_n 0, 1), (55, .bipush 8, 2), (57, .newarray .int, 2), (59, .putfield 28, 3), (62, .aload_n 0, 1), (63, .bipush 10, 2)],
   [(65, .newarray .int, 2), (67, .putfield 31, 3), (70, .aload_n 0, 1), (71, .bipush 8, 2), (73, .newarray .int, 2), (75, .putfield 34, 3), (78, .aload_n 0, 1), (79, .bipush 12, 2), (81, .newarray .int, 2), (83, .putfield 37, 3), (86, .aload_n 0, 1), (87, .iconst 5, 1), (88, .newarray .int, 2), (90, .putfield 40, 3), (93, .aload_n 0, 1), (94, .sipush 320, 3)],
   [(97, .newarray .int, 2), (99, .putfield 43, 3), (102, .aload_n 0, 1), (103, .bipush 16, 2), (105, .newarray .int, 2), (107, .dup, 1), (108, .iconst 0, 1), (109, .iconst 0, 1), (110, .iastore, 1), (111, .dup, 1), (112, .iconst 1, 1), (113, .iconst 4, 1), (114, .iastore, 1), (115, .dup, 1), (116, .iconst 2, 1), (117, .bipush 7, 2), (119, .iastore, 1), (120, .dup, 1), (121, .iconst 3, 1), (122, .bipush 12, 2), (124, .iastore, 1), (125, .dup, 1), (126, .iconst 4, 1), (127, .bipush 16, 2)],
   [(129, .iastore, 1), (130, .dup, 1), (131, .iconst 5, 1), (132, .bipush 21, 2), (134, .iastore, 1), (135, .dup, 1), (136, .bipush 6, 2), (138, .bipush 25, 2), (140, .iastore, 1), (141, .dup, 1), (142, .bipush 7, 2), (144, .bipush 29, 2), (146, .iastore, 1), (147, .dup, 1), (148, .bipush 8, 2), (150, .bipush 35, 2), (152, .iastore, 1), (153, .dup, 1), (154, .bipush 9, 2), (156, .bipush 41, 2), (158, .iastore, 1), (159, .dup, 1)],
   [(160, .bipush 10, 2), (162, .bipush 46, 2), (164, .iastore, 1), (165, .dup, 1), (166, .bipush 11, 2), (168, .bipush 49, 2), (170, .iastore, 1), (171, .dup, 1), (172, .bipush 12, 2), (174, .bipush 53, 2), (176, .iastore, 1), (177, .dup, 1), (178, .bipush 13, 2), (180, .bipush 57, 2), (182, .iastore, 1), (183, .dup, 1), (184, .bipush 14, 2), (186, .bipush 61, 2), (188, .iastore, 1), (189, .dup, 1), (190, .bipush 15, 2)],
   [(192, .bipush 67, 2), (194, .iastore, 1), (195, .putfield 46, 3), (198, .aload_n 0, 1), (199, .bipush 67, 2), (201, .newarray .int, 2), (203, .dup, 1), (204, .iconst 0, 1), (205, .bipush 114, 2), (207, .iastore, 1), (208, .dup, 1), (209, .iconst 1, 1), (210, .bipush 111, 2), (212, .iastore, 1), (213, .dup, 1), (214, .iconst 2, 1), (215, .bipush 111, 2), (217, .iastore, 1), (218, .dup, 1), (219, .iconst 3, 1), (220, .bipush 102, 2), (222, .iastore, 1), (223, .dup, 1)],
   [(224, .iconst 4, 1), (225, .bipush 112, 2), (227, .iastore, 1), (228, .dup, 1), (229, .iconst 5, 1), (230, .bipush 101, 2), (232, .iastore, 1), (233, .dup, 1), (234, .bipush 6, 2), (236, .bipush 103, 2), (238, .iastore, 1), (239, .dup, 1), (240, .bipush 7, 2), (242, .bipush 115, 2), (244, .iastore, 1), (245, .dup, 1), (246, .bipush 8, 2), (248, .bipush 112, 2), (250, .iastore, 1), (251, .dup, 1), (252, .bipush 9, 2), (254, .bipush 111, 2)],
   [(256, .iastore, 1), (257, .dup, 1), (258, .bipush 10, 2), (260, .bipush 117, 2), (262, .iastore, 1), (263, .dup, 1), (264, .bipush 11, 2), (266, .bipush 116, 2), (268, .iastore, 1), (269, .dup, 1), (270, .bipush 12, 2), (272, .bipush 114, 2), (274, .iastore, 1), (275, .dup, 1), (276, .bipush 13, 2), (278, .bipush 97, 2), (280, .iastore, 1), (281, .dup, 1), (282, .bipush 14, 2), (284, .bipush 105, 2), (286, .iastore, 1), (287, .dup, 1)],
   [(288, .bipush 15, 2), (290, .bipush 110, 2), (292, .iastore, 1), (293, .dup, 1), (294, .bipush 16, 2), (296, .bipush 115, 2), (298, .iastore, 1), (299, .dup, 1), (300, .bipush 17, 2), (302, .bipush 108, 2), (304, .iastore, 1), (305, .dup, 1), (306, .bipush 18, 2), (308, .bipush 101, 2), (310, .iastore, 1), (311, .dup, 1), (312, .bipush 19, 2), (314, .bipush 101, 2), (316, .iastore, 1), (317, .dup, 1), (318, .bipush 20, 2)],
   [(320, .bipush 112, 2), (322, .iastore, 1), (323, .dup, 1), (324, .bipush 21, 2), (326, .bipush 116, 2), (328, .iastore, 1), (329, .dup, 1), (330, .bipush 22, 2), (332, .bipush 117, 2), (334, .iastore, 1), (335, .dup, 1), (336, .bipush 23, 2), (338, .bipush 110, 2), (340, .iastore, 1), (341, .dup, 1), (342, .bipush 24, 2), (344, .bipush 101, 2), (346, .iastore, 1), (347, .dup, 1), (348, .bipush 25, 2), (350, .bipush 119, 2)],
   [(352, .iastore, 1), (353, .dup, 1), (354, .bipush 26, 2), (356, .bipush 101, 2), (358, .iastore, 1), (359, .dup, 1), (360, .bipush 27, 2), (362, .bipush 97, 2), (364, .iastore, 1), (365, .dup, 1), (366, .bipush 28, 2), (368, .bipush 114, 2), (370, .iastore, 1), (371, .dup, 1), (372, .bipush 29, 2), (374, .bipush 103, 2), (376, .iastore, 1), (377, .dup, 1), (378, .bipush 30, 2), (380, .bipush 117, 2), (382, .iastore, 1), (383, .dup, 1)],
   [(384, .bipush 31, 2), (386, .bipush 116, 2), (388, .iastore, 1), (389, .dup, 1), (390, .bipush 32, 2), (392, .bipush 116, 2), (394, .iastore, 1), (395, .dup, 1), (396, .bipush 33, 2), (398, .bipush 101, 2), (400, .iastore, 1), (401, .dup, 1), (402, .bipush 34, 2), (404, .bipush 114, 2), (406, .iastore, 1), (407, .dup, 1), (408, .bipush 35, 2), (410, .bipush 103, 2), (412, .iastore, 1), (413, .dup, 1), (414, .bipush 36, 2)],
   [(416, .bipush 114, 2), (418, .iastore, 1), (419, .dup, 1), (420, .bipush 37, 2), (422, .bipush 111, 2), (424, .iastore, 1), (425, .dup, 1), (426, .bipush 38, 2), (428, .bipush 117, 2), (430, .iastore, 1), (431, .dup, 1), (432, .bipush 39, 2), (434, .bipush 110, 2), (436, .iastore, 1), (437, .dup, 1), (438, .bipush 40, 2), (440, .bipush 100, 2), (442, .iastore, 1), (443, .dup, 1), (444, .bipush 41, 2), (446, .bipush 115, 2)],
   [(448, .iastore, 1), (449, .dup, 1), (450, .bipush 42, 2), (452, .bipush 108, 2), (454, .iastore, 1), (455, .dup, 1), (456, .bipush 43, 2), (458, .bipush 97, 2), (460, .iastore, 1), (461, .dup, 1), (462, .bipush 44, 2), (464, .bipush 116, 2), (466, .iastore, 1), (467, .dup, 1), (468, .bipush 45, 2), (470, .bipush 101, 2), (472, .iastore, 1), (473, .dup, 1), (474, .bipush 46, 2), (476, .bipush 116, 2), (478, .iastore, 1), (479, .dup, 1)],
   [(480, .bipush 47, 2), (482, .bipush 105, 2), (484, .iastore, 1), (485, .dup, 1), (486, .bipush 48, 2), (488, .bipush 112, 2), (490, .iastore, 1), (491, .dup, 1), (492, .bipush 49, 2), (494, .bipush 108, 2), (496, .iastore, 1), (497, .dup, 1), (498, .bipush 50, 2), (500, .bipush 101, 2), (502, .iastore, 1), (503, .dup, 1), (504, .bipush 51, 2), (506, .bipush 97, 2), (508, .iastore, 1), (509, .dup, 1), (510, .bipush 52, 2)],
   [(512, .bipush 107, 2), (514, .iastore, 1), (515, .dup, 1), (516, .bipush 53, 2), (518, .bipush 101, 2), (520, .iastore, 1), (521, .dup, 1), (522, .bipush 54, 2), (524, .bipush 97, 2), (526, .iastore, 1), (527, .dup, 1), (528, .bipush 55, 2), (530, .bipush 99, 2), (532, .iastore, 1), (533, .dup, 1), (534, .bipush 56, 2), (536, .bipush 104, 2), (538, .iastore, 1), (539, .dup, 1), (540, .bipush 57, 2), (542, .bipush 106, 2)],
   [(544, .iastore, 1), (545, .dup, 1), (546, .bipush 58, 2), (548, .bipush 111, 2), (550, .iastore, 1), (551, .dup, 1), (552, .bipush 59, 2), (554, .bipush 105, 2), (556, .iastore, 1), (557, .dup, 1), (558, .bipush 60, 2), (560, .bipush 110, 2), (562, .iastore, 1), (563, .dup, 1), (564, .bipush 61, 2), (566, .bipush 102, 2), (568, .iastore, 1), (569, .dup, 1), (570, .bipush 62, 2), (572, .bipush 114, 2), (574, .iastore, 1), (575, .dup, 1)],
   [(576, .bipush 63, 2), (578, .bipush 111, 2), (580, .iastore, 1), (581, .dup, 1), (582, .bipush 64, 2), (584, .bipush 122, 2), (586, .iastore, 1), (587, .dup, 1), (588, .bipush 65, 2), (590, .bipush 101, 2), (592, .iastore, 1), (593, .dup, 1), (594, .bipush 66, 2), (596, .bipush 110, 2), (598, .iastore, 1), (599, .putfield 49, 3), (602, .aload_n 0, 1), (603, .iconst 5, 1), (604, .newarray .int, 2), (606, .putfield 52, 3)],
   [(609, .aload_n 0, 1), (610, .bipush 8, 2), (612, .newarray .int, 2), (614, .putfield 55, 3), (617, .aload_n 0, 1), (618, .bipush 12, 2), (620, .newarray .int, 2), (622, .putfield 58, 3), (625, .aload_n 0, 1), (626, .bipush 12, 2), (628, .newarray .int, 2), (630, .putfield 61, 3), (633, .aload_n 0, 1), (634, .iconst 2, 1), (635, .newarray .boolean, 2), (637, .putfield 64, 3)],
   [(640, .aload_n 0, 1), (641, .iconst 4, 1), (642, .newarray .int, 2), (644, .dup, 1), (645, .iconst 0, 1), (646, .bipush (-4), 2), (648, .iastore, 1), (649, .dup, 1), (650, .iconst 1, 1), (651, .bipush (-4), 2), (653, .iastore, 1), (654, .dup, 1), (655, .iconst 2, 1), (656, .bipush (-4), 2), (658, .iastore, 1), (659, .dup, 1), (660, .iconst 3, 1), (661, .bipush (-4), 2), (663, .iastore, 1), (664, .putfield 68, 3), (667, .aload_n 0, 1), (668, .iconst 4, 1), (669, .newarray .int, 2), (671, .putfield 71, 3)],
   [(674, .aload_n 0, 1), (675, .sipush 160, 3), (678, .newarray .int, 2), (680, .putfield 74, 3), (683, .return_, 1)]]
def mm_r119 : mm_R := ((yX10_init, cX10_init, 1, none, 0, false, [(4, 229), (1, 11)], (4, 230)),
   RX10, mm_t119, [(1, 6, 0, 0, 0, [(4, 231), (1, 25), (1, 26)]),
    (7, 0, 10, 0, 1, [(4, 232)]),
    (13, 0, 10, 7, 1, [(4, 239)]),
    (16, 0, 10, 8, 1, [(5, 0)]),
    (19, 0, 10, 9, 1, [(5, 1)]),
    (22, 0, 10, 10, 1, [(5, 2)]),
    (25, 0, 10, 11, 1, [(5, 3)]),
    (28, 0, 10, 12, 1, [(5, 4)]),
    (31, 0, 10, 13, 1, [(5, 5)]),
    (34, 0, 10, 14, 1, [(5, 6)]),
    (37, 0, 10, 15, 1, [(5, 7)]),
    (40, 0, 10, 16, 1, [(5, 8)]),
    (43, 0, 10, 21, 1, [(5, 13)]),
    (46, 0, 10, 30, 1, [(5, 22)]),
    (49, 0, 10, 31, 1, [(5, 23)]),
    (52, 0, 10, 32, 1, [(5, 24)]),
    (55, 0, 10, 33, 1, [(5, 25)]),
    (58, 0, 10, 35, 1, [(5, 27)]),
    (61, 0, 10, 36, 1, [(5, 28)]),
    (64, 0, 10, 41, 1, [(5, 33)]),
    (68, 0, 10, 42, 1, [(5, 34)]),
    (71, 0, 10, 43, 1, [(5, 35)]),
    (74, 0, 10, 44, 1, [(5, 36)])])
-- 120: "RainOrganModel" "in"
def mm_t120 : mm_T := [[(0, .lload_n 0, 1), (1, .lload_n 2, 1), (2, .lcmp, 1), (3, .ifCond .lt 14, 3), (6, .lload_n 0, 1), (7, .lload 4, 2), (9, .lcmp, 1), (10, .ifCond .gt 7, 3), (13, .iconst 1, 1), (14, .goto 4, 3), (17, .iconst 0, 1), (18, .ireturn, 1)]]
def mm_r120 : mm_R := ((yX10_in, cX10_in, 6, (some .boolean), 3, true, [(5, 141), (1, 11)], (5, 142)),
   RX10, mm_t120, [])
-- 121: "RainOrganModel" "feed"
def mm_t121 : mm_T := [[(0, .aload_n 0, 1), (1, .getfield 77, 3), (4, .bipush 8, 2), (6, .iadd, 1), (7, .sipush 320, 3), (10, .if_icmp .le 6, 3), (13, .bipush (-3), 2), (15, .ireturn, 1), (16, .bipush 56, 2), (18, .istore_n 3, 1), (19, .iload_n 3, 1), (20, .ifCond .lt 36, 3), (23, .aload_n 0, 1), (24, .getfield 43, 3), (27, .aload_n 0, 1), (28, .getfield 77, 3), (31, .lload_n 1, 1)],
   [(32, .iload_n 3, 1), (33, .lshr, 1), (34, .l2i, 1), (35, .sipush 255, 3), (38, .iand, 1), (39, .iastore, 1), (40, .aload_n 0, 1), (41, .dup, 1), (42, .getfield 77, 3), (45, .iconst 1, 1), (46, .iadd, 1), (47, .putfield 77, 3), (50, .iinc 3 (-8), 3), (53, .goto (-34), 3), (56, .aload_n 0, 1), (57, .getfield 77, 3), (60, .ireturn, 1)]]
def mm_r121 : mm_R := ((yX10_feed, cX10_feed, 4, (some .int), 1, false, [(5, 133), (1, 11), (5, 134)], (5, 135)),
   RX10, mm_t121, [(43, 0, 10, 21, 2, [(5, 13)]),
    (77, 0, 10, 22, 0, [(5, 14)])])
-- 122: "RainOrganModel" "end"
def mm_t122 : mm_T := [[(0, .iload_n 1, 1), (1, .i2l, 1), (2, .lconst 0, 1), (3, .aload_n 0, 1), (4, .getfield 77, 3), (7, .i2l, 1), (8, .invokestatic 81, 3), (11, .ifCond .ne 5, 3), (14, .iconst (-1), 1), (15, .ireturn, 1), (16, .aload_n 0, 1), (17, .getfield 77, 3), (20, .istore_n 2, 1), (21, .aload_n 0, 1), (22, .iload_n 1, 1), (23, .putfield 77, 3), (26, .iload_n 2, 1), (27, .ireturn, 1)]]
def mm_r122 : mm_R := ((yX10_end, cX10_end, 3, (some .int), 1, false, [(5, 137), (1, 11), (5, 138)], (5, 139)),
   RX10, mm_t122, [(77, 0, 10, 22, 0, [(5, 14)]),
    (81, 2, 120, 10, 0, [(5, 140)])])
-- 123: "RainOrganModel" "byteAt"
def mm_t123 : mm_T := [[(0, .iload_n 1, 1), (1, .aload_n 0, 1), (2, .getfield 77, 3), (5, .if_icmp .ge 12, 3), (8, .aload_n 0, 1), (9, .getfield 43, 3), (12, .iload_n 1, 1), (13, .iaload, 1), (14, .goto 5, 3), (17, .bipush (-4), 2), (19, .ireturn, 1)]]
def mm_r123 : mm_R := ((yX10_byteAt, cX10_byteAt, 2, (some .int), 1, false, [(5, 153), (1, 11), (0, 43)], (5, 154)),
   RX10, mm_t123, [(43, 0, 10, 21, 2, [(5, 13)]),
    (77, 0, 10, 22, 0, [(5, 14)])])
-- 124: "RainOrganModel" "fails"
def mm_t124 : mm_T := [[(0, .aload_n 0, 1), (1, .getfield 85, 3), (4, .ifCond .ne 16, 3), (7, .aload_n 0, 1), (8, .iload_n 1, 1), (9, .putfield 85, 3), (12, .aload_n 0, 1), (13, .aload_n 0, 1), (14, .getfield 88, 3), (17, .putfield 91, 3), (20, .return_, 1)]]
def mm_r124 : mm_R := ((yX10_fails, cX10_fails, 2, none, 1, false, [(5, 161), (1, 11), (0, 44)], (5, 162)),
   RX10, mm_t124, [(85, 0, 10, 24, 0, [(5, 16)]),
    (88, 0, 10, 27, 0, [(5, 19)]),
    (91, 0, 10, 25, 0, [(5, 17)])])
-- 125: "RainOrganModel" "nameHere"
def mm_t125 : mm_T := [[(0, .iconst 0, 1), (1, .istore_n 1, 1), (2, .iload_n 1, 1), (3, .bipush 15, 2), (5, .if_icmp .ge 113, 3), (8, .aload_n 0, 1), (9, .getfield 94, 3), (12, .iconst 1, 1), (13, .if_icmp .ne 105, 3), (16, .aload_n 0, 1), (17, .getfield 97, 3), (20, .aload_n 0, 1), (21, .getfield 88, 3), (24, .isub, 1), (25, .aload_n 0, 1), (26, .getfield 46, 3), (29, .iload_n 1, 1), (30, .iconst 1, 1), (31, .iadd, 1)],
   [(32, .iaload, 1), (33, .aload_n 0, 1), (34, .getfield 46, 3), (37, .iload_n 1, 1), (38, .iaload, 1), (39, .isub, 1), (40, .if_icmp .ne 7, 3), (43, .iconst 1, 1), (44, .goto 4, 3), (47, .iconst 0, 1), (48, .istore_n 2, 1), (49, .iconst 0, 1), (50, .istore_n 3, 1), (51, .iload_n 2, 1), (52, .ifCond .eq 54, 3), (55, .iload_n 3, 1), (56, .aload_n 0, 1), (57, .getfield 97, 3), (60, .aload_n 0, 1), (61, .getfield 88, 3)],
   [(64, .isub, 1), (65, .if_icmp .ge 41, 3), (68, .aload_n 0, 1), (69, .aload_n 0, 1), (70, .getfield 88, 3), (73, .iload_n 3, 1), (74, .iadd, 1), (75, .invokevirtual 100, 3), (78, .aload_n 0, 1), (79, .getfield 49, 3), (82, .aload_n 0, 1), (83, .getfield 46, 3), (86, .iload_n 1, 1), (87, .iaload, 1), (88, .iload_n 3, 1), (89, .iadd, 1), (90, .iaload, 1), (91, .if_icmp .ne 7, 3), (94, .iconst 1, 1), (95, .goto 4, 3)],
   [(98, .iconst 0, 1), (99, .istore_n 2, 1), (100, .iinc 3 1, 3), (103, .goto (-52), 3), (106, .iload_n 2, 1), (107, .ifCond .eq 5, 3), (110, .iload_n 1, 1), (111, .ireturn, 1), (112, .iinc 1 1, 3), (115, .goto (-113), 3), (118, .bipush (-4), 2), (120, .ireturn, 1)]]
def mm_r125 : mm_R := ((yX10_nameHere, cX10_nameHere, 4, (some .int), 0, false, [(5, 169), (1, 11), (0, 46)], (5, 170)),
   RX10, mm_t125, [(46, 0, 10, 30, 2, [(5, 22)]),
    (49, 0, 10, 31, 2, [(5, 23)]),
    (88, 0, 10, 27, 0, [(5, 19)]),
    (94, 0, 10, 28, 0, [(5, 20)]),
    (97, 0, 10, 26, 0, [(5, 18)]),
    (100, 1, 123, 10, 0, [(5, 151)])])
-- 126: "RainOrganModel" "step"
def mm_t126 : mm_T := [[(0, .aload_n 0, 1), (1, .getfield 85, 3), (4, .ifCond .le 4, 3), (7, .return_, 1), (8, .aload_n 0, 1), (9, .aload_n 0, 1), (10, .getfield 97, 3), (13, .invokevirtual 100, 3), (16, .bipush 32, 2), (18, .if_icmp .ne 16, 3), (21, .aload_n 0, 1), (22, .dup, 1), (23, .getfield 97, 3), (26, .iconst 1, 1), (27, .iadd, 1), (28, .putfield 97, 3), (31, .goto (-23), 3)],
   [(34, .aload_n 0, 1), (35, .aload_n 0, 1), (36, .getfield 97, 3), (39, .putfield 88, 3), (42, .aload_n 0, 1), (43, .aload_n 0, 1), (44, .getfield 97, 3), (47, .invokevirtual 100, 3), (50, .istore_n 1, 1), (51, .aload_n 0, 1), (52, .iconst 0, 1), (53, .putfield 104, 3), (56, .iload_n 1, 1), (57, .bipush (-4), 2), (59, .if_icmp .ne 11, 3), (62, .aload_n 0, 1), (63, .iconst 0, 1)],
   [(64, .putfield 94, 3), (67, .goto 202, 3), (70, .iload_n 1, 1), (71, .i2l, 1), (72, .ldc2_w 107, 3), (75, .ldc2_w 109, 3), (78, .invokestatic 81, 3), (81, .ifCond .eq 45, 3), (84, .aload_n 0, 1), (85, .aload_n 0, 1), (86, .getfield 97, 3), (89, .invokevirtual 100, 3), (92, .i2l, 1), (93, .ldc2_w 107, 3)],
   [(96, .ldc2_w 109, 3), (99, .invokestatic 81, 3), (102, .ifCond .eq 16, 3), (105, .aload_n 0, 1), (106, .dup, 1), (107, .getfield 97, 3), (110, .iconst 1, 1), (111, .iadd, 1), (112, .putfield 97, 3), (115, .goto (-31), 3), (118, .aload_n 0, 1), (119, .iconst 1, 1), (120, .putfield 94, 3), (123, .goto 146, 3), (126, .iload_n 1, 1), (127, .i2l, 1)],
   [(128, .ldc2_w 111, 3), (131, .ldc2_w 113, 3), (134, .invokestatic 81, 3), (137, .ifCond .eq 106, 3), (140, .aload_n 0, 1), (141, .aload_n 0, 1), (142, .getfield 97, 3), (145, .invokevirtual 100, 3), (148, .i2l, 1), (149, .ldc2_w 111, 3), (152, .ldc2_w 113, 3), (155, .invokestatic 81, 3), (158, .ifCond .eq 59, 3)],
   [(161, .aload_n 0, 1), (162, .aload_n 0, 1), (163, .getfield 97, 3), (166, .aload_n 0, 1), (167, .getfield 88, 3), (170, .isub, 1), (171, .iconst 3, 1), (172, .if_icmp .ge 25, 3), (175, .bipush 10, 2), (177, .aload_n 0, 1), (178, .getfield 104, 3), (181, .imul, 1), (182, .aload_n 0, 1), (183, .aload_n 0, 1), (184, .getfield 97, 3), (187, .invokevirtual 100, 3), (190, .iadd, 1), (191, .bipush 48, 2)],
   [(193, .isub, 1), (194, .goto 7, 3), (197, .aload_n 0, 1), (198, .getfield 104, 3), (201, .putfield 104, 3), (204, .aload_n 0, 1), (205, .dup, 1), (206, .getfield 97, 3), (209, .iconst 1, 1), (210, .iadd, 1), (211, .putfield 97, 3), (214, .goto (-74), 3), (217, .aload_n 0, 1), (218, .iconst 2, 1), (219, .putfield 94, 3), (222, .aload_n 0, 1), (223, .getfield 97, 3)],
   [(226, .aload_n 0, 1), (227, .getfield 88, 3), (230, .isub, 1), (231, .iconst 3, 1), (232, .if_icmp .le 37, 3), (235, .aload_n 0, 1), (236, .iconst 1, 1), (237, .invokevirtual 115, 3), (240, .goto 29, 3), (243, .aload_n 0, 1), (244, .iconst 3, 1), (245, .putfield 94, 3), (248, .aload_n 0, 1), (249, .dup, 1), (250, .getfield 97, 3), (253, .iconst 1, 1), (254, .iadd, 1), (255, .putfield 97, 3)],
   [(258, .iload_n 1, 1), (259, .bipush 59, 2), (261, .if_icmp .eq 8, 3), (264, .aload_n 0, 1), (265, .iconst 1, 1), (266, .invokevirtual 115, 3), (269, .return_, 1)]]
def mm_r126 : mm_R := ((yX10_step, cX10_step, 2, none, 0, false, [(5, 149), (1, 11), (0, 42)], (5, 150)),
   RX10, mm_t126, [(81, 2, 120, 10, 0, [(5, 140)]),
    (85, 0, 10, 24, 0, [(5, 16)]),
    (88, 0, 10, 27, 0, [(5, 19)]),
    (94, 0, 10, 28, 0, [(5, 20)]),
    (97, 0, 10, 26, 0, [(5, 18)]),
    (100, 1, 123, 10, 0, [(5, 151)]),
    (104, 0, 10, 29, 0, [(5, 21)]),
    (107, 11, 0, 0, 97, [(5, 155)]),
    (109, 11, 0, 0, 122, [(5, 156)]),
    (111, 11, 0, 0, 48, [(5, 157)]),
    (113, 11, 0, 0, 57, [(5, 158)]),
    (115, 1, 124, 10, 0, [(5, 159)])])
-- 127: "RainOrganModel" "looks"
def mm_t127 : mm_T := [[(0, .aload_n 0, 1), (1, .getfield 85, 3), (4, .ifCond .ne 16, 3), (7, .aload_n 0, 1), (8, .getfield 94, 3), (11, .iconst 2, 1), (12, .if_icmp .eq 8, 3), (15, .aload_n 0, 1), (16, .iconst 2, 1), (17, .invokevirtual 115, 3), (20, .aload_n 0, 1), (21, .getfield 85, 3), (24, .ifCond .ne 23, 3), (27, .aload_n 0, 1), (28, .getfield 104, 3), (31, .i2l, 1)],
   [(32, .iload_n 1, 1), (33, .i2l, 1), (34, .iload_n 2, 1), (35, .i2l, 1), (36, .invokestatic 81, 3), (39, .ifCond .ne 8, 3), (42, .aload_n 0, 1), (43, .iconst 3, 1), (44, .invokevirtual 115, 3), (47, .return_, 1)]]
def mm_r127 : mm_R := ((yX10_looks, cX10_looks, 3, none, 2, false, [(5, 182), (1, 11), (0, 49)], (5, 183)),
   RX10, mm_t127, [(81, 2, 120, 10, 0, [(5, 140)]),
    (85, 0, 10, 24, 0, [(5, 16)]),
    (94, 0, 10, 28, 0, [(5, 20)]),
    (104, 0, 10, 29, 0, [(5, 21)]),
    (115, 1, 124, 10, 0, [(5, 159)])])
-- 128: "RainOrganModel" "number"
def mm_t128 : mm_T := [[(0, .aload_n 0, 1), (1, .iload_n 1, 1), (2, .iload_n 2, 1), (3, .invokevirtual 119, 3), (6, .aload_n 0, 1), (7, .getfield 85, 3), (10, .ifCond .ne 10, 3), (13, .aload_n 0, 1), (14, .getfield 104, 3), (17, .goto 4, 3), (20, .iload_n 1, 1), (21, .istore_n 3, 1), (22, .aload_n 0, 1), (23, .invokevirtual 123, 3), (26, .iload_n 3, 1), (27, .ireturn, 1)]]
def mm_r128 : mm_R := ((yX10_number, cX10_number, 4, (some .int), 2, false, [(5, 178), (1, 11), (0, 48)], (5, 179)),
   RX10, mm_t128, [(85, 0, 10, 24, 0, [(5, 16)]),
    (104, 0, 10, 29, 0, [(5, 21)]),
    (119, 1, 127, 10, 0, [(5, 180)]),
    (123, 1, 126, 10, 0, [(5, 147)])])
-- 129: "RainOrganModel" "readWay"
def mm_t129 : mm_T := [[(0, .aload_n 0, 1), (1, .invokevirtual 126, 3), (4, .istore_n 2, 1), (5, .iload_n 2, 1), (6, .bipush 7, 2), (8, .if_icmp .ne 75, 3), (11, .aload_n 0, 1), (12, .invokevirtual 123, 3), (15, .aload_n 0, 1), (16, .iconst 0, 1), (17, .iconst 4, 1), (18, .invokevirtual 119, 3), (21, .aload_n 0, 1), (22, .getfield 85, 3), (25, .ifCond .ne 16, 3), (28, .aload_n 0, 1), (29, .getfield 104, 3)],
   [(32, .iload_n 1, 1), (33, .if_icmp .gt 8, 3), (36, .aload_n 0, 1), (37, .iconst 3, 1), (38, .invokevirtual 115, 3), (41, .aload_n 0, 1), (42, .getfield 85, 3), (45, .ifCond .ne 10, 3), (48, .aload_n 0, 1), (49, .getfield 104, 3), (52, .goto 4, 3), (55, .iconst 0, 1), (56, .istore_n 3, 1), (57, .aload_n 0, 1), (58, .iload_n 3, 1), (59, .aload_n 0, 1), (60, .getfield 130, 3), (63, .if_icmp .le 7, 3)],
   [(66, .iload_n 3, 1), (67, .goto 7, 3), (70, .aload_n 0, 1), (71, .getfield 130, 3), (74, .putfield 130, 3), (77, .aload_n 0, 1), (78, .invokevirtual 123, 3), (81, .iload_n 3, 1), (82, .ireturn, 1), (83, .iload_n 2, 1), (84, .iconst 2, 1), (85, .if_icmp .ne 40, 3), (88, .aload_n 0, 1), (89, .invokevirtual 123, 3), (92, .aload_n 0, 1), (93, .iconst 0, 1), (94, .bipush 7, 2)],
   [(96, .invokevirtual 133, 3), (99, .istore_n 3, 1), (100, .aload_n 0, 1), (101, .iload_n 3, 1), (102, .aload_n 0, 1), (103, .getfield 137, 3), (106, .if_icmp .le 7, 3), (109, .iload_n 3, 1), (110, .goto 7, 3), (113, .aload_n 0, 1), (114, .getfield 137, 3), (117, .putfield 137, 3), (120, .bipush 10, 2), (122, .iload_n 3, 1), (123, .iadd, 1), (124, .ireturn, 1), (125, .iload_n 2, 1), (126, .bipush 8, 2)],
   [(128, .if_icmp .eq 8, 3), (131, .aload_n 0, 1), (132, .iconst 2, 1), (133, .invokevirtual 115, 3), (136, .aload_n 0, 1), (137, .invokevirtual 123, 3), (140, .bipush 20, 2), (142, .ireturn, 1)]]
def mm_r129 : mm_R := ((yX10_readWay, cX10_readWay, 4, (some .int), 1, false, [(5, 186), (1, 11), (0, 50)], (5, 187)),
   RX10, mm_t129, [(85, 0, 10, 24, 0, [(5, 16)]),
    (104, 0, 10, 29, 0, [(5, 21)]),
    (115, 1, 124, 10, 0, [(5, 159)]),
    (119, 1, 127, 10, 0, [(5, 180)]),
    (123, 1, 126, 10, 0, [(5, 147)]),
    (126, 1, 125, 10, 0, [(5, 167)]),
    (130, 0, 10, 18, 0, [(5, 10)]),
    (133, 1, 128, 10, 0, [(5, 176)]),
    (137, 0, 10, 19, 0, [(5, 11)])])
-- 130: "RainOrganModel" "readCup"
def mm_t130 : mm_T := [[(0, .aload_n 0, 1), (1, .invokevirtual 126, 3), (4, .bipush 9, 2), (6, .isub, 1), (7, .istore_n 2, 1), (8, .iload_n 2, 1), (9, .i2l, 1), (10, .lconst 0, 1), (11, .ldc2_w 140, 3), (14, .invokestatic 81, 3), (17, .ifCond .ne 9, 3), (20, .aload_n 0, 1), (21, .iconst 2, 1), (22, .invokevirtual 115, 3), (25, .return_, 1), (26, .aload_n 0, 1), (27, .invokevirtual 123, 3), (30, .aload_n 0, 1), (31, .getfield 25, 3)],
   [(34, .bipush 10, 2), (36, .iload_n 1, 1), (37, .iadd, 1), (38, .iload_n 2, 1), (39, .iastore, 1), (40, .aload_n 0, 1), (41, .getfield 25, 3), (44, .bipush 26, 2), (46, .iload_n 1, 1), (47, .iadd, 1), (48, .bipush (-4), 2), (50, .iastore, 1), (51, .iload_n 2, 1), (52, .i2l, 1), (53, .lconst 1, 1), (54, .ldc2_w 142, 3), (57, .invokestatic 81, 3), (60, .ifCond .eq 19, 3), (63, .aload_n 0, 1)],
   [(64, .getfield 25, 3), (67, .bipush 18, 2), (69, .iload_n 1, 1), (70, .iadd, 1), (71, .aload_n 0, 1), (72, .iconst 1, 1), (73, .bipush 30, 2), (75, .invokevirtual 133, 3), (78, .iastore, 1), (79, .iload_n 2, 1), (80, .iconst 4, 1), (81, .if_icmp .ne 91, 3), (84, .aload_n 0, 1), (85, .iconst 0, 1), (86, .bipush 7, 2), (88, .invokevirtual 119, 3), (91, .aload_n 0, 1), (92, .getfield 85, 3), (95, .ifCond .ne 16, 3)],
   [(98, .aload_n 0, 1), (99, .getfield 104, 3), (102, .iload_n 1, 1), (103, .if_icmp .ne 8, 3), (106, .aload_n 0, 1), (107, .iconst 3, 1), (108, .invokevirtual 115, 3), (111, .aload_n 0, 1), (112, .getfield 25, 3), (115, .bipush 26, 2), (117, .iload_n 1, 1), (118, .iadd, 1), (119, .aload_n 0, 1), (120, .getfield 85, 3), (123, .ifCond .ne 10, 3), (126, .aload_n 0, 1), (127, .getfield 104, 3)],
   [(130, .goto 4, 3), (133, .iconst 0, 1), (134, .iastore, 1), (135, .aload_n 0, 1), (136, .aload_n 0, 1), (137, .getfield 104, 3), (140, .aload_n 0, 1), (141, .getfield 137, 3), (144, .if_icmp .le 17, 3), (147, .aload_n 0, 1), (148, .getfield 85, 3), (151, .ifCond .ne 10, 3), (154, .aload_n 0, 1), (155, .getfield 104, 3), (158, .goto 7, 3)],
   [(161, .aload_n 0, 1), (162, .getfield 137, 3), (165, .putfield 137, 3), (168, .aload_n 0, 1), (169, .invokevirtual 123, 3), (172, .return_, 1)]]
def mm_r130 : mm_R := ((yX10_readCup, cX10_readCup, 3, none, 1, false, [(5, 190), (1, 11), (0, 51)], (5, 191)),
   RX10, mm_t130, [(25, 0, 10, 11, 2, [(5, 3)]),
    (81, 2, 120, 10, 0, [(5, 140)]),
    (85, 0, 10, 24, 0, [(5, 16)]),
    (104, 0, 10, 29, 0, [(5, 21)]),
    (115, 1, 124, 10, 0, [(5, 159)]),
    (119, 1, 127, 10, 0, [(5, 180)]),
    (123, 1, 126, 10, 0, [(5, 147)]),
    (126, 1, 125, 10, 0, [(5, 167)]),
    (133, 1, 128, 10, 0, [(5, 176)]),
    (137, 0, 10, 19, 0, [(5, 11)]),
    (140, 11, 0, 0, 5, [(5, 192)]),
    (142, 11, 0, 0, 4, [(5, 193)])])
-- 131: "RainOrganModel" "readSeconds"
def mm_t131 : mm_T := [[(0, .iconst 0, 1), (1, .istore_n 3, 1), (2, .aload_n 0, 1), (3, .getfield 85, 3), (6, .ifCond .ne 67, 3), (9, .iload_n 3, 1), (10, .ifCond .eq 11, 3), (13, .aload_n 0, 1), (14, .getfield 94, 3), (17, .iconst 2, 1), (18, .if_icmp .ne 55, 3), (21, .aload_n 0, 1), (22, .getfield 94, 3), (25, .iconst 2, 1), (26, .if_icmp .ne 14, 3), (29, .iload_n 3, 1), (30, .bipush 12, 2)],
   [(32, .if_icmp .ne 8, 3), (35, .aload_n 0, 1), (36, .iconst 5, 1), (37, .invokevirtual 115, 3), (40, .aload_n 0, 1), (41, .iconst 0, 1), (42, .iload_n 2, 1), (43, .invokevirtual 133, 3), (46, .istore 4, 2), (48, .aload_n 0, 1), (49, .getfield 85, 3), (52, .ifCond .ne 18, 3), (55, .aload_n 0, 1), (56, .getfield 25, 3), (59, .iload_n 1, 1), (60, .iconst 1, 1), (61, .iadd, 1), (62, .iload_n 3, 1), (63, .iadd, 1)],
   [(64, .iload 4, 2), (66, .iastore, 1), (67, .iinc 3 1, 3), (70, .goto (-68), 3), (73, .aload_n 0, 1), (74, .getfield 25, 3), (77, .iload_n 1, 1), (78, .iload_n 3, 1), (79, .iastore, 1), (80, .return_, 1)]]
def mm_r131 : mm_R := ((yX10_readSeconds, cX10_readSeconds, 5, none, 2, false, [(5, 196), (1, 11), (0, 52)], (5, 197)),
   RX10, mm_t131, [(25, 0, 10, 11, 2, [(5, 3)]),
    (85, 0, 10, 24, 0, [(5, 16)]),
    (94, 0, 10, 28, 0, [(5, 20)]),
    (115, 1, 124, 10, 0, [(5, 159)]),
    (133, 1, 128, 10, 0, [(5, 176)])])
-- 132: "RainOrganModel" "readThing"
def mm_t132 : mm_T := [[(0, .aload_n 0, 1), (1, .getfield 40, 3), (4, .iload_n 1, 1), (5, .iaload, 1), (6, .istore_n 2, 1), (7, .iload_n 1, 1), (8, .ifCond .ne 7, 3), (11, .iconst 4, 1), (12, .goto 32, 3), (15, .iload_n 1, 1), (16, .iconst 1, 1), (17, .if_icmp .ne 7, 3), (20, .iconst 5, 1), (21, .goto 23, 3), (24, .iload_n 1, 1), (25, .iconst 2, 1), (26, .if_icmp .ne 8, 3), (29, .bipush 8, 2), (31, .goto 13, 3)],
   [(34, .iload_n 1, 1), (35, .iconst 3, 1), (36, .if_icmp .ne 7, 3), (39, .iconst 3, 1), (40, .goto 4, 3), (43, .iconst 4, 1), (44, .istore_n 3, 1), (45, .iload_n 2, 1), (46, .iload_n 3, 1), (47, .if_icmp .ne 9, 3), (50, .aload_n 0, 1), (51, .iconst 5, 1), (52, .invokevirtual 115, 3), (55, .return_, 1), (56, .aload_n 0, 1), (57, .invokevirtual 123, 3), (60, .iload_n 1, 1), (61, .ifCond .ne 75, 3)],
   [(64, .aload_n 0, 1), (65, .getfield 28, 3), (68, .iconst 2, 1), (69, .iload_n 2, 1), (70, .imul, 1), (71, .aload_n 0, 1), (72, .iconst 1, 1), (73, .bipush 9, 2), (75, .invokevirtual 133, 3), (78, .iastore, 1), (79, .aload_n 0, 1), (80, .getfield 28, 3), (83, .iconst 2, 1), (84, .iload_n 2, 1), (85, .imul, 1), (86, .iconst 1, 1), (87, .iadd, 1), (88, .aload_n 0, 1), (89, .iconst 0, 1), (90, .iconst 4, 1), (91, .invokevirtual 133, 3), (94, .iastore, 1), (95, .aload_n 0, 1)],
   [(96, .aload_n 0, 1), (97, .getfield 28, 3), (100, .iconst 2, 1), (101, .iload_n 2, 1), (102, .imul, 1), (103, .iconst 1, 1), (104, .iadd, 1), (105, .iaload, 1), (106, .aload_n 0, 1), (107, .getfield 130, 3), (110, .if_icmp .le 16, 3), (113, .aload_n 0, 1), (114, .getfield 28, 3), (117, .iconst 2, 1), (118, .iload_n 2, 1), (119, .imul, 1), (120, .iconst 1, 1), (121, .iadd, 1), (122, .iaload, 1), (123, .goto 7, 3), (126, .aload_n 0, 1), (127, .getfield 130, 3)],
   [(130, .putfield 130, 3), (133, .goto 151, 3), (136, .iload_n 1, 1), (137, .iconst 1, 1), (138, .if_icmp .ne 43, 3), (141, .aload_n 0, 1), (142, .getfield 31, 3), (145, .iconst 2, 1), (146, .iload_n 2, 1), (147, .imul, 1), (148, .aload_n 0, 1), (149, .iload_n 2, 1), (150, .invokevirtual 144, 3), (153, .iastore, 1), (154, .aload_n 0, 1), (155, .getfield 31, 3), (158, .iconst 2, 1), (159, .iload_n 2, 1)],
   [(160, .imul, 1), (161, .iconst 1, 1), (162, .iadd, 1), (163, .aload_n 0, 1), (164, .iload_n 2, 1), (165, .invokevirtual 144, 3), (168, .iastore, 1), (169, .aload_n 0, 1), (170, .getfield 25, 3), (173, .iconst 0, 1), (174, .iload_n 2, 1), (175, .iadd, 1), (176, .iconst 2, 1), (177, .iastore, 1), (178, .goto 106, 3), (181, .iload_n 1, 1), (182, .iconst 2, 1), (183, .if_icmp .ne 24, 3), (186, .aload_n 0, 1), (187, .getfield 34, 3), (190, .iload_n 2, 1), (191, .aload_n 0, 1)],
   [(192, .iconst 0, 1), (193, .bipush 7, 2), (195, .invokevirtual 133, 3), (198, .iastore, 1), (199, .aload_n 0, 1), (200, .iload_n 2, 1), (201, .invokevirtual 147, 3), (204, .goto 80, 3), (207, .iload_n 1, 1), (208, .iconst 3, 1), (209, .if_icmp .ne 19, 3), (212, .aload_n 0, 1), (213, .bipush 34, 2), (215, .bipush 13, 2), (217, .iload_n 2, 1), (218, .imul, 1), (219, .iadd, 1), (220, .bipush 9, 2), (222, .invokevirtual 150, 3)],
   [(225, .goto 59, 3), (228, .aload_n 0, 1), (229, .getfield 37, 3), (232, .iconst 3, 1), (233, .iload_n 2, 1), (234, .imul, 1), (235, .aload_n 0, 1), (236, .iconst 0, 1), (237, .bipush 11, 2), (239, .invokevirtual 133, 3), (242, .iastore, 1), (243, .aload_n 0, 1), (244, .getfield 37, 3), (247, .iconst 3, 1), (248, .iload_n 2, 1), (249, .imul, 1), (250, .iconst 1, 1), (251, .iadd, 1), (252, .aload_n 0, 1), (253, .aload_n 0, 1), (254, .getfield 37, 3)],
   [(257, .iconst 3, 1), (258, .iload_n 2, 1), (259, .imul, 1), (260, .iaload, 1), (261, .bipush 11, 2), (263, .invokevirtual 133, 3), (266, .iastore, 1), (267, .aload_n 0, 1), (268, .getfield 37, 3), (271, .iconst 3, 1), (272, .iload_n 2, 1), (273, .imul, 1), (274, .iconst 2, 1), (275, .iadd, 1), (276, .aload_n 0, 1), (277, .iconst 1, 1), (278, .bipush 99, 2), (280, .invokevirtual 133, 3), (283, .iastore, 1), (284, .aload_n 0, 1), (285, .getfield 40, 3)],
   [(288, .iload_n 1, 1), (289, .dup2, 1), (290, .iaload, 1), (291, .iconst 1, 1), (292, .iadd, 1), (293, .iastore, 1), (294, .return_, 1)]]
def mm_r132 : mm_R := ((yX10_readThing, cX10_readThing, 4, none, 1, false, [(5, 174), (1, 11), (0, 47)], (5, 175)),
   RX10, mm_t132, [(25, 0, 10, 11, 2, [(5, 3)]),
    (28, 0, 10, 12, 2, [(5, 4)]),
    (31, 0, 10, 13, 2, [(5, 5)]),
    (34, 0, 10, 14, 2, [(5, 6)]),
    (37, 0, 10, 15, 2, [(5, 7)]),
    (40, 0, 10, 16, 2, [(5, 8)]),
    (115, 1, 124, 10, 0, [(5, 159)]),
    (123, 1, 126, 10, 0, [(5, 147)]),
    (130, 0, 10, 18, 0, [(5, 10)]),
    (133, 1, 128, 10, 0, [(5, 176)]),
    (144, 1, 129, 10, 0, [(5, 184)]),
    (147, 1, 130, 10, 0, [(5, 188)]),
    (150, 1, 131, 10, 0, [(5, 194)])])
-- 133: "RainOrganModel" "readLine"
def mm_t133 : mm_T := [[(0, .aload_n 0, 1), (1, .invokevirtual 126, 3), (4, .istore_n 1, 1), (5, .iload_n 1, 1), (6, .i2l, 1), (7, .lconst 0, 1), (8, .ldc2_w 153, 3), (11, .invokestatic 81, 3), (14, .ifCond .ne 9, 3), (17, .aload_n 0, 1), (18, .iconst 2, 1), (19, .invokevirtual 115, 3), (22, .return_, 1), (23, .iload_n 1, 1), (24, .iconst 4, 1), (25, .if_icmp .gt 11, 3), (28, .aload_n 0, 1), (29, .iload_n 1, 1), (30, .invokevirtual 155, 3)],
   [(33, .goto 65, 3), (36, .aload_n 0, 1), (37, .getfield 158, 3), (40, .iload_n 1, 1), (41, .ishr, 1), (42, .iconst 1, 1), (43, .iand, 1), (44, .iconst 1, 1), (45, .if_icmp .ne 8, 3), (48, .aload_n 0, 1), (49, .iconst 4, 1), (50, .invokevirtual 115, 3), (53, .aload_n 0, 1), (54, .dup, 1), (55, .getfield 158, 3), (58, .iconst 1, 1), (59, .iload_n 1, 1), (60, .ishl, 1), (61, .ior, 1), (62, .putfield 158, 3)],
   [(65, .aload_n 0, 1), (66, .invokevirtual 123, 3), (69, .iload_n 1, 1), (70, .iconst 5, 1), (71, .if_icmp .ne 15, 3), (74, .aload_n 0, 1), (75, .bipush 73, 2), (77, .sipush 255, 3), (80, .invokevirtual 150, 3), (83, .goto 15, 3), (86, .aload_n 0, 1), (87, .aload_n 0, 1), (88, .iconst 0, 1), (89, .sipush 999, 3), (92, .invokevirtual 133, 3), (95, .putfield 161, 3)],
   [(98, .aload_n 0, 1), (99, .getfield 85, 3), (102, .ifCond .ne 16, 3), (105, .aload_n 0, 1), (106, .getfield 94, 3), (109, .iconst 3, 1), (110, .if_icmp .eq 8, 3), (113, .aload_n 0, 1), (114, .iconst 2, 1), (115, .invokevirtual 115, 3), (118, .aload_n 0, 1), (119, .invokevirtual 123, 3), (122, .return_, 1)]]
def mm_r133 : mm_R := ((yX10_readLine, cX10_readLine, 2, none, 0, false, [(5, 165), (1, 11), (0, 45)], (5, 166)),
   RX10, mm_t133, [(81, 2, 120, 10, 0, [(5, 140)]),
    (85, 0, 10, 24, 0, [(5, 16)]),
    (94, 0, 10, 28, 0, [(5, 20)]),
    (115, 1, 124, 10, 0, [(5, 159)]),
    (123, 1, 126, 10, 0, [(5, 147)]),
    (126, 1, 125, 10, 0, [(5, 167)]),
    (133, 1, 128, 10, 0, [(5, 176)]),
    (150, 1, 131, 10, 0, [(5, 194)]),
    (153, 11, 0, 0, 6, [(5, 171)]),
    (155, 1, 132, 10, 0, [(5, 172)]),
    (158, 0, 10, 20, 0, [(5, 12)]),
    (161, 0, 10, 17, 0, [(5, 9)])])
-- 134: "RainOrganModel" "takes"
def mm_t134 : mm_T := [[(0, .iconst 0, 1), (1, .istore_n 1, 1), (2, .iload_n 1, 1), (3, .sipush 140, 3), (6, .if_icmp .ge 21, 3), (9, .aload_n 0, 1), (10, .getfield 7, 3), (13, .iload_n 1, 1), (14, .aload_n 0, 1), (15, .getfield 25, 3), (18, .iload_n 1, 1), (19, .iaload, 1), (20, .iastore, 1), (21, .iinc 1 1, 3), (24, .goto (-22), 3), (27, .iconst 0, 1), (28, .istore_n 1, 1), (29, .iload_n 1, 1), (30, .bipush 12, 2)],
   [(32, .if_icmp .ge 75, 3), (35, .aload_n 0, 1), (36, .getfield 13, 3), (39, .iload_n 1, 1), (40, .bipush 8, 2), (42, .irem, 1), (43, .aload_n 0, 1), (44, .getfield 28, 3), (47, .iload_n 1, 1), (48, .bipush 8, 2), (50, .irem, 1), (51, .iaload, 1), (52, .iastore, 1), (53, .aload_n 0, 1), (54, .getfield 16, 3), (57, .iload_n 1, 1), (58, .bipush 10, 2), (60, .irem, 1), (61, .aload_n 0, 1), (62, .getfield 31, 3)],
   [(65, .iload_n 1, 1), (66, .bipush 10, 2), (68, .irem, 1), (69, .iaload, 1), (70, .iastore, 1), (71, .aload_n 0, 1), (72, .getfield 19, 3), (75, .iload_n 1, 1), (76, .bipush 8, 2), (78, .irem, 1), (79, .aload_n 0, 1), (80, .getfield 34, 3), (83, .iload_n 1, 1), (84, .bipush 8, 2), (86, .irem, 1), (87, .iaload, 1), (88, .iastore, 1), (89, .aload_n 0, 1), (90, .getfield 22, 3), (93, .iload_n 1, 1), (94, .aload_n 0, 1), (95, .getfield 37, 3)],
   [(98, .iload_n 1, 1), (99, .iaload, 1), (100, .iastore, 1), (101, .iinc 1 1, 3), (104, .goto (-75), 3), (107, .aload_n 0, 1), (108, .aload_n 0, 1), (109, .getfield 40, 3), (112, .iconst 0, 1), (113, .iaload, 1), (114, .putfield 164, 3), (117, .aload_n 0, 1), (118, .aload_n 0, 1), (119, .getfield 40, 3), (122, .iconst 1, 1), (123, .iaload, 1), (124, .putfield 167, 3), (127, .aload_n 0, 1)],
   [(128, .aload_n 0, 1), (129, .getfield 40, 3), (132, .iconst 2, 1), (133, .iaload, 1), (134, .putfield 170, 3), (137, .aload_n 0, 1), (138, .aload_n 0, 1), (139, .getfield 40, 3), (142, .iconst 3, 1), (143, .iaload, 1), (144, .putfield 173, 3), (147, .aload_n 0, 1), (148, .aload_n 0, 1), (149, .getfield 40, 3), (152, .iconst 4, 1), (153, .iaload, 1), (154, .putfield 176, 3), (157, .aload_n 0, 1), (158, .aload_n 0, 1), (159, .getfield 161, 3)],
   [(162, .putfield 179, 3), (165, .aload_n 0, 1), (166, .getfield 64, 3), (169, .iconst 0, 1), (170, .iconst 0, 1), (171, .bastore, 1), (172, .aload_n 0, 1), (173, .getfield 64, 3), (176, .iconst 1, 1), (177, .iconst 0, 1), (178, .bastore, 1), (179, .return_, 1)]]
def mm_r134 : mm_R := ((yX10_takes, cX10_takes, 2, none, 0, false, [(5, 200), (1, 11), (0, 53)], (5, 201)),
   RX10, mm_t134, [(7, 0, 10, 0, 2, [(4, 232)]),
    (13, 0, 10, 7, 2, [(4, 239)]),
    (16, 0, 10, 8, 2, [(5, 0)]),
    (19, 0, 10, 9, 2, [(5, 1)]),
    (22, 0, 10, 10, 2, [(5, 2)]),
    (25, 0, 10, 11, 2, [(5, 3)]),
    (28, 0, 10, 12, 2, [(5, 4)]),
    (31, 0, 10, 13, 2, [(5, 5)]),
    (34, 0, 10, 14, 2, [(5, 6)]),
    (37, 0, 10, 15, 2, [(5, 7)]),
    (40, 0, 10, 16, 2, [(5, 8)]),
    (64, 0, 10, 41, 2, [(5, 33)]),
    (161, 0, 10, 17, 0, [(5, 9)]),
    (164, 0, 10, 1, 0, [(4, 233)]),
    (167, 0, 10, 2, 0, [(4, 234)]),
    (170, 0, 10, 3, 0, [(4, 235)]),
    (173, 0, 10, 4, 0, [(4, 236)]),
    (176, 0, 10, 5, 0, [(4, 237)]),
    (179, 0, 10, 6, 0, [(4, 238)])])
-- 135: "RainOrganModel" "organ"
def mm_t135 : mm_T := [[(0, .aload_n 0, 1), (1, .iconst 0, 1), (2, .putfield 85, 3), (5, .aload_n 0, 1), (6, .iconst 0, 1), (7, .putfield 97, 3), (10, .aload_n 0, 1), (11, .iconst 0, 1), (12, .putfield 158, 3), (15, .aload_n 0, 1), (16, .iconst 0, 1), (17, .putfield 161, 3), (20, .aload_n 0, 1), (21, .iconst (-1), 1), (22, .putfield 130, 3), (25, .aload_n 0, 1), (26, .iconst (-1), 1), (27, .putfield 137, 3), (30, .iconst 0, 1), (31, .istore_n 1, 1)],
   [(32, .iconst 0, 1), (33, .istore_n 2, 1), (34, .iload_n 2, 1), (35, .sipush 140, 3), (38, .if_icmp .ge 25, 3), (41, .aload_n 0, 1), (42, .getfield 25, 3), (45, .iload_n 2, 1), (46, .iconst 0, 1), (47, .iastore, 1), (48, .aload_n 0, 1), (49, .getfield 40, 3), (52, .iload_n 2, 1), (53, .iconst 5, 1), (54, .irem, 1), (55, .iconst 0, 1), (56, .iastore, 1), (57, .iinc 2 1, 3), (60, .goto (-26), 3), (63, .aload_n 0, 1)],
   [(64, .invokevirtual 123, 3), (67, .aload_n 0, 1), (68, .getfield 85, 3), (71, .ifCond .ne 20, 3), (74, .aload_n 0, 1), (75, .getfield 94, 3), (78, .ifCond .eq 13, 3), (81, .aload_n 0, 1), (82, .invokevirtual 182, 3), (85, .iinc 1 1, 3), (88, .goto (-21), 3), (91, .aload_n 0, 1), (92, .getfield 85, 3), (95, .ifCond .ne 35, 3)],
   [(98, .aload_n 0, 1), (99, .getfield 130, 3), (102, .aload_n 0, 1), (103, .getfield 40, 3), (106, .iconst 1, 1), (107, .iaload, 1), (108, .if_icmp .ge 16, 3), (111, .aload_n 0, 1), (112, .getfield 137, 3), (115, .aload_n 0, 1), (116, .getfield 40, 3), (119, .iconst 2, 1), (120, .iaload, 1), (121, .if_icmp .lt 9, 3), (124, .aload_n 0, 1), (125, .bipush 6, 2), (127, .invokevirtual 115, 3)],
   [(130, .aload_n 0, 1), (131, .iconst 0, 1), (132, .putfield 77, 3), (135, .aload_n 0, 1), (136, .aload_n 0, 1), (137, .getfield 85, 3), (140, .putfield 185, 3), (143, .aload_n 0, 1), (144, .getfield 85, 3), (147, .ifCond .le 11, 3), (150, .bipush (-10), 2), (152, .aload_n 0, 1), (153, .getfield 91, 3), (156, .isub, 1), (157, .ireturn, 1), (158, .aload_n 0, 1), (159, .invokevirtual 188, 3)],
   [(162, .iload_n 1, 1), (163, .ireturn, 1)]]
def mm_r135 : mm_R := ((yX10_organ, cX10_organ, 3, (some .int), 0, false, [(5, 144), (1, 11), (5, 145)], (5, 146)),
   RX10, mm_t135, [(25, 0, 10, 11, 2, [(5, 3)]),
    (40, 0, 10, 16, 2, [(5, 8)]),
    (77, 0, 10, 22, 0, [(5, 14)]),
    (85, 0, 10, 24, 0, [(5, 16)]),
    (91, 0, 10, 25, 0, [(5, 17)]),
    (94, 0, 10, 28, 0, [(5, 20)]),
    (97, 0, 10, 26, 0, [(5, 18)]),
    (115, 1, 124, 10, 0, [(5, 159)]),
    (123, 1, 126, 10, 0, [(5, 147)]),
    (130, 0, 10, 18, 0, [(5, 10)]),
    (137, 0, 10, 19, 0, [(5, 11)]),
    (158, 0, 10, 20, 0, [(5, 12)]),
    (161, 0, 10, 17, 0, [(5, 9)]),
    (182, 1, 133, 10, 0, [(5, 163)]),
    (185, 0, 10, 23, 0, [(5, 15)]),
    (188, 1, 134, 10, 0, [(5, 198)])])
-- 136: "RainOrganModel" "fault"
def mm_t136 : mm_T := [[(0, .aload_n 0, 1), (1, .getfield 185, 3), (4, .ireturn, 1)]]
def mm_r136 : mm_R := ((yX10_fault, cX10_fault, 1, (some .int), 0, false, [(5, 203), (1, 11), (5, 204)], (5, 205)),
   RX10, mm_t136, [(185, 0, 10, 23, 0, [(5, 15)])])
-- 137: "RainOrganModel" "rule"
def mm_t137 : mm_T := [[(0, .iload_n 1, 1), (1, .tableswitch 81 0 6 #[43, 48, 53, 58, 63, 71, 76], 43)],
   [(44, .aload_n 0, 1), (45, .getfield 164, 3), (48, .ireturn, 1), (49, .aload_n 0, 1), (50, .getfield 167, 3), (53, .ireturn, 1), (54, .aload_n 0, 1), (55, .getfield 170, 3), (58, .ireturn, 1), (59, .aload_n 0, 1), (60, .getfield 173, 3), (63, .ireturn, 1)],
   [(64, .aload_n 0, 1), (65, .getfield 7, 3), (68, .bipush 73, 2), (70, .iaload, 1), (71, .ireturn, 1), (72, .aload_n 0, 1), (73, .getfield 176, 3), (76, .ireturn, 1), (77, .aload_n 0, 1), (78, .getfield 179, 3), (81, .ireturn, 1), (82, .iconst (-1), 1), (83, .ireturn, 1)]]
def mm_r137 : mm_R := ((yX10_rule, cX10_rule, 2, (some .int), 1, false, [(5, 207), (1, 11), (5, 208)], (5, 209)),
   RX10, mm_t137, [(7, 0, 10, 0, 2, [(4, 232)]),
    (164, 0, 10, 1, 0, [(4, 233)]),
    (167, 0, 10, 2, 0, [(4, 234)]),
    (170, 0, 10, 3, 0, [(4, 235)]),
    (173, 0, 10, 4, 0, [(4, 236)]),
    (176, 0, 10, 5, 0, [(4, 237)]),
    (179, 0, 10, 6, 0, [(4, 238)])])
-- 138: "RainOrganModel" "isGutter"
def mm_t138 : mm_T := [[(0, .iload_n 1, 1), (1, .i2l, 1), (2, .lconst 0, 1), (3, .aload_n 0, 1), (4, .getfield 167, 3), (7, .iconst 1, 1), (8, .isub, 1), (9, .i2l, 1), (10, .invokestatic 81, 3), (13, .ireturn, 1)]]
def mm_r138 : mm_R := ((yX10_isGutter, cX10_isGutter, 2, (some .boolean), 1, false, [(5, 216), (1, 11), (0, 54)], (5, 217)),
   RX10, mm_t138, [(81, 2, 120, 10, 0, [(5, 140)]),
    (167, 0, 10, 2, 0, [(4, 234)])])
-- 139: "RainOrganModel" "isSpout"
def mm_t139 : mm_T := [[(0, .iload_n 1, 1), (1, .i2l, 1), (2, .lconst 0, 1), (3, .aload_n 0, 1), (4, .getfield 170, 3), (7, .iconst 1, 1), (8, .isub, 1), (9, .i2l, 1), (10, .invokestatic 81, 3), (13, .ireturn, 1)]]
def mm_r139 : mm_R := ((yX10_isSpout, cX10_isSpout, 2, (some .boolean), 1, false, [(5, 224), (1, 11), (0, 55)], (5, 225)),
   RX10, mm_t139, [(81, 2, 120, 10, 0, [(5, 140)]),
    (170, 0, 10, 3, 0, [(4, 235)])])
-- 140: "RainOrganModel" "isShower"
def mm_t140 : mm_T := [[(0, .iload_n 1, 1), (1, .i2l, 1), (2, .lconst 0, 1), (3, .aload_n 0, 1), (4, .getfield 173, 3), (7, .iconst 1, 1), (8, .isub, 1), (9, .i2l, 1), (10, .invokestatic 81, 3), (13, .ireturn, 1)]]
def mm_r140 : mm_R := ((yX10_isShower, cX10_isShower, 2, (some .boolean), 1, false, [(6, 62), (1, 11), (0, 65)], (6, 63)),
   RX10, mm_t140, [(81, 2, 120, 10, 0, [(5, 140)]),
    (173, 0, 10, 4, 0, [(4, 236)])])
-- 141: "RainOrganModel" "gutter"
def mm_t141 : mm_T := [[(0, .aload_n 0, 1), (1, .iload_n 1, 1), (2, .invokevirtual 191, 3), (5, .ifCond .ne 5, 3), (8, .iconst (-1), 1), (9, .ireturn, 1), (10, .iload_n 2, 1), (11, .i2l, 1), (12, .lconst 0, 1), (13, .lconst 1, 1), (14, .invokestatic 81, 3), (17, .ifCond .eq 16, 3), (20, .aload_n 0, 1), (21, .getfield 16, 3), (24, .iconst 2, 1), (25, .iload_n 1, 1), (26, .imul, 1), (27, .iload_n 2, 1), (28, .iadd, 1), (29, .iaload, 1), (30, .goto 36, 3)],
   [(33, .iload_n 2, 1), (34, .iconst 2, 1), (35, .if_icmp .ne 14, 3), (38, .aload_n 0, 1), (39, .getfield 7, 3), (42, .iconst 0, 1), (43, .iload_n 1, 1), (44, .iadd, 1), (45, .iaload, 1), (46, .goto 20, 3), (49, .iload_n 2, 1), (50, .iconst 3, 1), (51, .if_icmp .ne 14, 3), (54, .aload_n 0, 1), (55, .getfield 7, 3), (58, .iconst 5, 1), (59, .iload_n 1, 1), (60, .iadd, 1), (61, .iaload, 1), (62, .goto 4, 3)],
   [(65, .iconst (-1), 1), (66, .ireturn, 1)]]
def mm_r141 : mm_R := ((yX10_gutter, cX10_gutter, 3, (some .int), 2, false, [(5, 211), (1, 11), (5, 212)], (5, 213)),
   RX10, mm_t141, [(7, 0, 10, 0, 2, [(4, 232)]),
    (16, 0, 10, 8, 2, [(5, 0)]),
    (81, 2, 120, 10, 0, [(5, 140)]),
    (191, 1, 138, 10, 0, [(5, 214)])])
-- 142: "RainOrganModel" "spout"
def mm_t142 : mm_T := [[(0, .aload_n 0, 1), (1, .iload_n 1, 1), (2, .invokevirtual 195, 3), (5, .ifCond .ne 5, 3), (8, .iconst (-1), 1), (9, .ireturn, 1), (10, .iload_n 2, 1), (11, .tableswitch 122 0 7 #[45, 52, 62, 72, 82, 92, 102, 112], 45)],
   [(56, .aload_n 0, 1), (57, .getfield 19, 3), (60, .iload_n 1, 1), (61, .iaload, 1), (62, .ireturn, 1), (63, .aload_n 0, 1)],
   [(64, .getfield 7, 3), (67, .bipush 10, 2), (69, .iload_n 1, 1), (70, .iadd, 1), (71, .iaload, 1), (72, .ireturn, 1), (73, .aload_n 0, 1), (74, .getfield 7, 3), (77, .bipush 18, 2), (79, .iload_n 1, 1), (80, .iadd, 1), (81, .iaload, 1), (82, .ireturn, 1), (83, .aload_n 0, 1), (84, .getfield 7, 3), (87, .bipush 26, 2), (89, .iload_n 1, 1), (90, .iadd, 1), (91, .iaload, 1), (92, .ireturn, 1), (93, .aload_n 0, 1), (94, .getfield 7, 3)],
   [(97, .bipush 86, 2), (99, .iload_n 1, 1), (100, .iadd, 1), (101, .iaload, 1), (102, .ireturn, 1), (103, .aload_n 0, 1), (104, .getfield 7, 3), (107, .bipush 102, 2), (109, .iload_n 1, 1), (110, .iadd, 1), (111, .iaload, 1), (112, .ireturn, 1), (113, .aload_n 0, 1), (114, .getfield 7, 3), (117, .bipush 118, 2), (119, .iload_n 1, 1), (120, .iadd, 1), (121, .iaload, 1), (122, .ireturn, 1), (123, .aload_n 0, 1), (124, .getfield 7, 3), (127, .bipush 110, 2)],
   [(129, .iload_n 1, 1), (130, .iadd, 1), (131, .iaload, 1), (132, .ireturn, 1), (133, .iconst (-1), 1), (134, .ireturn, 1)]]
def mm_r142 : mm_R := ((yX10_spout, cX10_spout, 3, (some .int), 2, false, [(5, 219), (1, 11), (5, 220)], (5, 221)),
   RX10, mm_t142, [(7, 0, 10, 0, 2, [(4, 232)]),
    (19, 0, 10, 9, 2, [(5, 1)]),
    (195, 1, 139, 10, 0, [(5, 222)])])
-- 143: "RainOrganModel" "peg"
def mm_t143 : mm_T := [[(0, .aload_n 0, 1), (1, .iload_n 1, 1), (2, .invokevirtual 191, 3), (5, .ifCond .eq 15, 3), (8, .iload_n 2, 1), (9, .i2l, 1), (10, .lconst 0, 1), (11, .ldc2_w 198, 3), (14, .invokestatic 81, 3), (17, .ifCond .ne 5, 3), (20, .iconst (-1), 1), (21, .ireturn, 1), (22, .aload_n 0, 1), (23, .getfield 7, 3), (26, .iconst 0, 1), (27, .iload_n 1, 1), (28, .iadd, 1), (29, .iaload, 1), (30, .istore_n 3, 1), (31, .aload_n 0, 1)],
   [(32, .getfield 7, 3), (35, .iconst 0, 1), (36, .iload_n 1, 1), (37, .iadd, 1), (38, .iload_n 2, 1), (39, .iastore, 1), (40, .iload_n 3, 1), (41, .ireturn, 1)]]
def mm_r143 : mm_R := ((yX10_peg, cX10_peg, 4, (some .int), 2, false, [(5, 227), (1, 11), (5, 228)], (5, 229)),
   RX10, mm_t143, [(7, 0, 10, 0, 2, [(4, 232)]),
    (81, 2, 120, 10, 0, [(5, 140)]),
    (191, 1, 138, 10, 0, [(5, 214)]),
    (198, 11, 0, 0, 2, [(5, 230)])])
-- 144: "RainOrganModel" "block"
def mm_t144 : mm_T := [[(0, .aload_n 0, 1), (1, .iload_n 1, 1), (2, .invokevirtual 191, 3), (5, .ifCond .ne 5, 3), (8, .iconst (-1), 1), (9, .ireturn, 1), (10, .aload_n 0, 1), (11, .getfield 7, 3), (14, .iconst 5, 1), (15, .iload_n 1, 1), (16, .iadd, 1), (17, .iaload, 1), (18, .istore_n 3, 1), (19, .aload_n 0, 1), (20, .getfield 7, 3), (23, .iconst 5, 1), (24, .iload_n 1, 1), (25, .iadd, 1), (26, .iload_n 2, 1), (27, .ifCond .eq 7, 3), (30, .iconst 1, 1), (31, .goto 4, 3)],
   [(34, .iconst 0, 1), (35, .iastore, 1), (36, .iload_n 3, 1), (37, .ireturn, 1)]]
def mm_r144 : mm_R := ((yX10_block, cX10_block, 4, (some .int), 2, false, [(5, 232), (1, 11), (5, 233)], (5, 234)),
   RX10, mm_t144, [(7, 0, 10, 0, 2, [(4, 232)]),
    (191, 1, 138, 10, 0, [(5, 214)])])
-- 145: "RainOrganModel" "cup"
def mm_t145 : mm_T := [[(0, .aload_n 0, 1), (1, .iload_n 1, 1), (2, .invokevirtual 195, 3), (5, .ifCond .eq 12, 3), (8, .iload_n 2, 1), (9, .ifCond .eq 10, 3), (12, .iload_n 2, 1), (13, .iconst 5, 1), (14, .if_icmp .eq 5, 3), (17, .iconst (-1), 1), (18, .ireturn, 1), (19, .aload_n 0, 1), (20, .getfield 7, 3), (23, .bipush 10, 2), (25, .iload_n 1, 1), (26, .iadd, 1), (27, .iaload, 1), (28, .istore_n 3, 1), (29, .aload_n 0, 1), (30, .getfield 7, 3)],
   [(33, .bipush 10, 2), (35, .iload_n 1, 1), (36, .iadd, 1), (37, .iload_n 2, 1), (38, .iastore, 1), (39, .aload_n 0, 1), (40, .getfield 7, 3), (43, .bipush 18, 2), (45, .iload_n 1, 1), (46, .iadd, 1), (47, .iconst 0, 1), (48, .iastore, 1), (49, .aload_n 0, 1), (50, .getfield 7, 3), (53, .bipush 26, 2), (55, .iload_n 1, 1), (56, .iadd, 1), (57, .bipush (-4), 2), (59, .iastore, 1), (60, .aload_n 0, 1), (61, .getfield 7, 3)],
   [(64, .sipush 136, 3), (67, .dup2, 1), (68, .iaload, 1), (69, .aload_n 0, 1), (70, .getfield 7, 3), (73, .bipush 86, 2), (75, .iload_n 1, 1), (76, .iadd, 1), (77, .iaload, 1), (78, .iadd, 1), (79, .iastore, 1), (80, .aload_n 0, 1), (81, .getfield 7, 3), (84, .bipush 86, 2), (86, .iload_n 1, 1), (87, .iadd, 1), (88, .iconst 0, 1), (89, .iastore, 1), (90, .aload_n 0, 1), (91, .getfield 7, 3), (94, .bipush 94, 2)],
   [(96, .iload_n 1, 1), (97, .iadd, 1), (98, .iconst 0, 1), (99, .iastore, 1), (100, .iload_n 3, 1), (101, .ireturn, 1)]]
def mm_r145 : mm_R := ((yX10_cup, cX10_cup, 4, (some .int), 2, false, [(5, 236), (1, 11), (5, 237)], (5, 238)),
   RX10, mm_t145, [(7, 0, 10, 0, 2, [(4, 232)]),
    (195, 1, 139, 10, 0, [(5, 222)])])
-- 146: "RainOrganModel" "settingMany"
def mm_t146 : mm_T := [[(0, .iconst 1, 1), (1, .istore_n 1, 1), (2, .iconst 0, 1), (3, .istore_n 2, 1), (4, .iload_n 2, 1), (5, .aload_n 0, 1), (6, .getfield 167, 3), (9, .if_icmp .ge 13, 3), (12, .iload_n 1, 1), (13, .iconst 3, 1), (14, .imul, 1), (15, .istore_n 1, 1), (16, .iinc 2 1, 3), (19, .goto (-15), 3), (22, .iload_n 1, 1), (23, .ireturn, 1)]]
def mm_r146 : mm_R := ((yX10_settingMany, cX10_settingMany, 3, (some .int), 0, false, [(6, 5), (1, 11), (0, 56)], (6, 6)),
   RX10, mm_t146, [(167, 0, 10, 2, 0, [(4, 234)])])
-- 147: "RainOrganModel" "settingsNow"
def mm_t147 : mm_T := [[(0, .iconst 0, 1), (1, .istore_n 1, 1), (2, .aload_n 0, 1), (3, .getfield 167, 3), (6, .iconst 1, 1), (7, .isub, 1), (8, .istore_n 2, 1), (9, .iload_n 2, 1), (10, .ifCond .lt 22, 3), (13, .iconst 3, 1), (14, .iload_n 1, 1), (15, .imul, 1), (16, .aload_n 0, 1), (17, .getfield 7, 3), (20, .iconst 0, 1), (21, .iload_n 2, 1), (22, .iadd, 1), (23, .iaload, 1), (24, .iadd, 1), (25, .istore_n 1, 1), (26, .iinc 2 (-1), 3), (29, .goto (-20), 3)],
   [(32, .iload_n 1, 1), (33, .ireturn, 1)]]
def mm_r147 : mm_R := ((yX10_settingsNow, cX10_settingsNow, 3, (some .int), 0, false, [(6, 9), (1, 11), (0, 57)], (6, 10)),
   RX10, mm_t147, [(7, 0, 10, 0, 2, [(4, 232)]),
    (167, 0, 10, 2, 0, [(4, 234)])])
-- 148: "RainOrganModel" "sets"
def mm_t148 : mm_T := [[(0, .iload_n 1, 1), (1, .istore_n 2, 1), (2, .iconst 0, 1), (3, .istore_n 3, 1), (4, .iload_n 3, 1), (5, .aload_n 0, 1), (6, .getfield 167, 3), (9, .if_icmp .ge 24, 3), (12, .aload_n 0, 1), (13, .getfield 7, 3), (16, .iconst 0, 1), (17, .iload_n 3, 1), (18, .iadd, 1), (19, .iload_n 2, 1), (20, .iconst 3, 1), (21, .irem, 1), (22, .iastore, 1), (23, .iload_n 2, 1), (24, .iconst 3, 1), (25, .idiv, 1), (26, .istore_n 2, 1), (27, .iinc 3 1, 3), (30, .goto (-26), 3)],
   [(33, .return_, 1)]]
def mm_r148 : mm_R := ((yX10_sets, cX10_sets, 4, none, 1, false, [(6, 13), (1, 11), (0, 58)], (6, 14)),
   RX10, mm_t148, [(7, 0, 10, 0, 2, [(4, 232)]),
    (167, 0, 10, 2, 0, [(4, 234)])])
-- 149: "RainOrganModel" "settings"
def mm_t149 : mm_T := [[(0, .iload_n 1, 1), (1, .i2l, 1), (2, .lconst 0, 1), (3, .aload_n 0, 1), (4, .invokevirtual 200, 3), (7, .iconst 1, 1), (8, .isub, 1), (9, .i2l, 1), (10, .invokestatic 81, 3), (13, .ifCond .ne 5, 3), (16, .iconst (-1), 1), (17, .ireturn, 1), (18, .aload_n 0, 1), (19, .invokevirtual 203, 3), (22, .istore_n 2, 1), (23, .aload_n 0, 1), (24, .iload_n 1, 1), (25, .invokevirtual 206, 3), (28, .iload_n 2, 1), (29, .ireturn, 1)]]
def mm_r149 : mm_R := ((yX10_settings, cX10_settings, 3, (some .int), 1, false, [(6, 0), (1, 11), (6, 1)], (6, 2)),
   RX10, mm_t149, [(81, 2, 120, 10, 0, [(5, 140)]),
    (200, 1, 146, 10, 0, [(6, 3)]),
    (203, 1, 147, 10, 0, [(6, 7)]),
    (206, 1, 148, 10, 0, [(6, 11)])])
-- 150: "RainOrganModel" "leads"
def mm_t150 : mm_T := [[(0, .iload_n 2, 1), (1, .bipush 20, 2), (3, .if_icmp .ne 20, 3), (6, .aload_n 0, 1), (7, .getfield 7, 3), (10, .iload_n 1, 1), (11, .sipush 136, 3), (14, .iadd, 1), (15, .dup2, 1), (16, .iaload, 1), (17, .iload_n 3, 1), (18, .iadd, 1), (19, .iastore, 1), (20, .goto 35, 3), (23, .iload_n 2, 1), (24, .bipush 10, 2), (26, .if_icmp .lt 19, 3), (29, .aload_n 0, 1), (30, .getfield 55, 3)],
   [(33, .iload_n 2, 1), (34, .bipush 10, 2), (36, .isub, 1), (37, .dup2, 1), (38, .iaload, 1), (39, .iload_n 3, 1), (40, .iadd, 1), (41, .iastore, 1), (42, .goto 13, 3), (45, .aload_n 0, 1), (46, .getfield 52, 3), (49, .iload_n 2, 1), (50, .dup2, 1), (51, .iaload, 1), (52, .iload_n 3, 1), (53, .iadd, 1), (54, .iastore, 1), (55, .return_, 1)]]
def mm_r150 : mm_R := ((yX10_leads, cX10_leads, 4, none, 3, false, [(6, 30), (1, 11), (0, 61)], (6, 31)),
   RX10, mm_t150, [(7, 0, 10, 0, 2, [(4, 232)]),
    (52, 0, 10, 32, 2, [(5, 24)]),
    (55, 0, 10, 33, 2, [(5, 25)])])
-- 151: "RainOrganModel" "gutters"
def mm_t151 : mm_T := [[(0, .iconst 0, 1), (1, .istore_n 3, 1), (2, .iload_n 3, 1), (3, .bipush 8, 2), (5, .if_icmp .ge 25, 3), (8, .aload_n 0, 1), (9, .getfield 52, 3), (12, .iload_n 3, 1), (13, .iconst 5, 1), (14, .irem, 1), (15, .iconst 0, 1), (16, .iastore, 1), (17, .aload_n 0, 1), (18, .getfield 55, 3), (21, .iload_n 3, 1), (22, .iconst 0, 1), (23, .iastore, 1), (24, .iinc 3 1, 3), (27, .goto (-25), 3), (30, .iconst 0, 1), (31, .istore_n 3, 1)],
   [(32, .iload_n 3, 1), (33, .aload_n 0, 1), (34, .getfield 164, 3), (37, .if_icmp .ge 60, 3), (40, .aload_n 0, 1), (41, .getfield 52, 3), (44, .aload_n 0, 1), (45, .getfield 13, 3), (48, .iconst 2, 1), (49, .iload_n 3, 1), (50, .imul, 1), (51, .iconst 1, 1), (52, .iadd, 1), (53, .iaload, 1), (54, .dup2, 1), (55, .iaload, 1), (56, .aload_n 0, 1), (57, .getfield 13, 3), (60, .iconst 2, 1), (61, .iload_n 3, 1), (62, .imul, 1), (63, .iaload, 1)],
   [(64, .iload_n 2, 1), (65, .imul, 1), (66, .iadd, 1), (67, .iastore, 1), (68, .aload_n 0, 1), (69, .getfield 7, 3), (72, .iload_n 1, 1), (73, .sipush 135, 3), (76, .iadd, 1), (77, .dup2, 1), (78, .iaload, 1), (79, .aload_n 0, 1), (80, .getfield 13, 3), (83, .iconst 2, 1), (84, .iload_n 3, 1), (85, .imul, 1), (86, .iaload, 1), (87, .iload_n 2, 1), (88, .imul, 1), (89, .iadd, 1), (90, .iastore, 1), (91, .iinc 3 1, 3), (94, .goto (-62), 3)],
   [(97, .iconst 0, 1), (98, .istore_n 3, 1), (99, .iload_n 3, 1), (100, .aload_n 0, 1), (101, .getfield 167, 3), (104, .if_icmp .ge 139, 3), (107, .aload_n 0, 1), (108, .getfield 52, 3), (111, .iload_n 3, 1), (112, .iaload, 1), (113, .istore 4, 2), (115, .aload_n 0, 1), (116, .getfield 7, 3), (119, .iconst 0, 1), (120, .iload_n 3, 1), (121, .iadd, 1), (122, .iaload, 1), (123, .istore 5, 2), (125, .iload 5, 2), (127, .ifCond .ne 8, 3)],
   [(130, .iload 4, 2), (132, .goto 38, 3), (135, .iload 5, 2), (137, .iconst 1, 1), (138, .if_icmp .ne 7, 3), (141, .iconst 0, 1), (142, .goto 28, 3), (145, .iload 4, 2), (147, .aload_n 0, 1), (148, .getfield 7, 3), (151, .iload_n 1, 1), (152, .sipush 134, 3), (155, .iadd, 1), (156, .iaload, 1), (157, .iconst 2, 1), (158, .irem, 1), (159, .ifCond .ne 7, 3)],
   [(162, .iconst 1, 1), (163, .goto 4, 3), (166, .iconst 0, 1), (167, .iadd, 1), (168, .iconst 2, 1), (169, .idiv, 1), (170, .istore 6, 2), (172, .aload_n 0, 1), (173, .getfield 7, 3), (176, .iconst 5, 1), (177, .iload_n 3, 1), (178, .iadd, 1), (179, .iaload, 1), (180, .iconst 1, 1), (181, .if_icmp .ne 21, 3), (184, .aload_n 0, 1), (185, .getfield 7, 3), (188, .iload_n 1, 1), (189, .sipush 136, 3)],
   [(192, .iadd, 1), (193, .dup2, 1), (194, .iaload, 1), (195, .iload 4, 2), (197, .iadd, 1), (198, .iastore, 1), (199, .goto 38, 3), (202, .aload_n 0, 1), (203, .iload_n 1, 1), (204, .aload_n 0, 1), (205, .getfield 16, 3), (208, .iconst 2, 1), (209, .iload_n 3, 1), (210, .imul, 1), (211, .iaload, 1), (212, .iload 6, 2), (214, .invokevirtual 209, 3), (217, .aload_n 0, 1), (218, .iload_n 1, 1), (219, .aload_n 0, 1), (220, .getfield 16, 3), (223, .iconst 2, 1)],
   [(224, .iload_n 3, 1), (225, .imul, 1), (226, .iconst 1, 1), (227, .iadd, 1), (228, .iaload, 1), (229, .iload 4, 2), (231, .iload 6, 2), (233, .isub, 1), (234, .invokevirtual 209, 3), (237, .iinc 3 1, 3), (240, .goto (-141), 3), (243, .return_, 1)]]
def mm_r151 : mm_R := ((yX10_gutters, cX10_gutters, 7, none, 2, false, [(6, 26), (1, 11), (0, 60)], (6, 27)),
   RX10, mm_t151, [(7, 0, 10, 0, 2, [(4, 232)]),
    (13, 0, 10, 7, 2, [(4, 239)]),
    (16, 0, 10, 8, 2, [(5, 0)]),
    (52, 0, 10, 32, 2, [(5, 24)]),
    (55, 0, 10, 33, 2, [(5, 25)]),
    (164, 0, 10, 1, 0, [(4, 233)]),
    (167, 0, 10, 2, 0, [(4, 234)]),
    (209, 1, 150, 10, 0, [(6, 28)])])
-- 152: "RainOrganModel" "sounds"
def mm_t152 : mm_T := [[(0, .aload_n 0, 1), (1, .getfield 7, 3), (4, .bipush 10, 2), (6, .iload_n 2, 1), (7, .iadd, 1), (8, .iaload, 1), (9, .istore 4, 2), (11, .aload_n 0, 1), (12, .getfield 7, 3), (15, .bipush 18, 2), (17, .iload_n 2, 1), (18, .iadd, 1), (19, .iaload, 1), (20, .istore 5, 2), (22, .aload_n 0, 1), (23, .iconst 0, 1), (24, .putfield 213, 3), (27, .iload 4, 2), (29, .ifCond .eq 9, 3)],
   [(32, .iload 4, 2), (34, .iconst 5, 1), (35, .if_icmp .ne 32, 3), (38, .aload_n 0, 1), (39, .getfield 7, 3), (42, .iload_n 1, 1), (43, .sipush 136, 3), (46, .iadd, 1), (47, .dup2, 1), (48, .iaload, 1), (49, .iload_n 3, 1), (50, .iadd, 1), (51, .iastore, 1), (52, .iload 4, 2), (54, .ifCond .ne 11, 3), (57, .iload_n 3, 1), (58, .ifCond .le 7, 3), (61, .iconst 1, 1), (62, .goto 4, 3)],
   [(65, .iconst 0, 1), (66, .ireturn, 1), (67, .iload 4, 2), (69, .iconst 3, 1), (70, .if_icmp .ne 54, 3), (73, .aload_n 0, 1), (74, .getfield 7, 3), (77, .iload_n 1, 1), (78, .bipush 94, 2), (80, .iadd, 1), (81, .iload_n 2, 1), (82, .iadd, 1), (83, .iaload, 1), (84, .iload_n 3, 1), (85, .iadd, 1), (86, .istore 6, 2), (88, .aload_n 0, 1), (89, .getfield 7, 3), (92, .iload_n 1, 1), (93, .sipush 136, 3)],
   [(96, .iadd, 1), (97, .dup2, 1), (98, .iaload, 1), (99, .iload_n 3, 1), (100, .iadd, 1), (101, .iastore, 1), (102, .aload_n 0, 1), (103, .getfield 7, 3), (106, .iload_n 1, 1), (107, .bipush 94, 2), (109, .iadd, 1), (110, .iload_n 2, 1), (111, .iadd, 1), (112, .iload 6, 2), (114, .iload 5, 2), (116, .irem, 1), (117, .iastore, 1), (118, .iload 6, 2), (120, .iload 5, 2), (122, .idiv, 1), (123, .ireturn, 1), (124, .aload_n 0, 1), (125, .getfield 7, 3)],
   [(128, .iload_n 1, 1), (129, .bipush 86, 2), (131, .iadd, 1), (132, .iload_n 2, 1), (133, .iadd, 1), (134, .iaload, 1), (135, .iload_n 3, 1), (136, .iadd, 1), (137, .istore 6, 2), (139, .iload 4, 2), (141, .iconst 2, 1), (142, .if_icmp .ne 71, 3), (145, .iload 6, 2), (147, .iload 5, 2), (149, .if_icmp .lt 8, 3), (152, .iload 6, 2), (154, .goto 13, 3), (157, .iload 6, 2), (159, .ifCond .le 7, 3)],
   [(162, .iconst 1, 1), (163, .goto 4, 3), (166, .iconst 0, 1), (167, .istore 7, 2), (169, .aload_n 0, 1), (170, .getfield 7, 3), (173, .iload_n 1, 1), (174, .sipush 136, 3), (177, .iadd, 1), (178, .dup2, 1), (179, .iaload, 1), (180, .iload 7, 2), (182, .iadd, 1), (183, .iastore, 1), (184, .aload_n 0, 1), (185, .getfield 7, 3), (188, .iload_n 1, 1), (189, .bipush 86, 2), (191, .iadd, 1)],
   [(192, .iload_n 2, 1), (193, .iadd, 1), (194, .iload 6, 2), (196, .iload 7, 2), (198, .isub, 1), (199, .iastore, 1), (200, .iload 6, 2), (202, .iload 5, 2), (204, .if_icmp .lt 7, 3), (207, .iconst 1, 1), (208, .goto 4, 3), (211, .iconst 0, 1), (212, .ireturn, 1), (213, .iload 6, 2), (215, .iload 5, 2), (217, .idiv, 1), (218, .iload 5, 2), (220, .imul, 1), (221, .istore 7, 2), (223, .aload_n 0, 1)],
   [(224, .getfield 7, 3), (227, .iload_n 1, 1), (228, .bipush 86, 2), (230, .iadd, 1), (231, .iload_n 2, 1), (232, .iadd, 1), (233, .iload 6, 2), (235, .iload 7, 2), (237, .isub, 1), (238, .iastore, 1), (239, .aload_n 0, 1), (240, .getfield 7, 3), (243, .iload_n 1, 1), (244, .sipush 136, 3), (247, .iadd, 1), (248, .dup2, 1), (249, .iaload, 1), (250, .iload 4, 2), (252, .iconst 1, 1), (253, .if_icmp .ne 8, 3)],
   [(256, .iload 7, 2), (258, .goto 4, 3), (261, .iconst 0, 1), (262, .iadd, 1), (263, .iastore, 1), (264, .aload_n 0, 1), (265, .iload 4, 2), (267, .iconst 4, 1), (268, .if_icmp .ne 8, 3), (271, .iload 7, 2), (273, .goto 4, 3), (276, .iconst 0, 1), (277, .putfield 213, 3), (280, .iload 6, 2), (282, .iload 5, 2), (284, .idiv, 1), (285, .ireturn, 1)]]
def mm_r152 : mm_R := ((yX10_sounds, cX10_sounds, 8, (some .int), 3, false, [(6, 34), (1, 11), (0, 62)], (6, 35)),
   RX10, mm_t152, [(7, 0, 10, 0, 2, [(4, 232)]),
    (213, 0, 10, 34, 0, [(5, 26)])])
-- 153: "RainOrganModel" "second"
def mm_t153 : mm_T := [[(0, .aload_n 0, 1), (1, .iload_n 1, 1), (2, .iload_n 2, 1), (3, .invokevirtual 216, 3), (6, .iconst 0, 1), (7, .istore_n 3, 1), (8, .iconst 0, 1), (9, .istore 4, 2), (11, .iload 4, 2), (13, .aload_n 0, 1), (14, .getfield 170, 3), (17, .if_icmp .ge 44, 3), (20, .aload_n 0, 1), (21, .getfield 55, 3), (24, .iload 4, 2), (26, .dup2, 1), (27, .iaload, 1), (28, .aload_n 0, 1), (29, .getfield 7, 3)],
   [(32, .iload_n 1, 1), (33, .bipush 110, 2), (35, .iadd, 1), (36, .iload 4, 2), (38, .iadd, 1), (39, .iaload, 1), (40, .iadd, 1), (41, .iastore, 1), (42, .aload_n 0, 1), (43, .getfield 7, 3), (46, .iload_n 1, 1), (47, .bipush 110, 2), (49, .iadd, 1), (50, .iload 4, 2), (52, .iadd, 1), (53, .iconst 0, 1), (54, .iastore, 1), (55, .iinc 4 1, 3), (58, .goto (-47), 3), (61, .iconst 0, 1), (62, .istore 4, 2)],
   [(64, .iload 4, 2), (66, .aload_n 0, 1), (67, .getfield 170, 3), (70, .if_icmp .ge 155, 3), (73, .aload_n 0, 1), (74, .getfield 7, 3), (77, .iload_n 1, 1), (78, .bipush 102, 2), (80, .iadd, 1), (81, .iload 4, 2), (83, .iadd, 1), (84, .dup2, 1), (85, .iaload, 1), (86, .aload_n 0, 1), (87, .getfield 55, 3), (90, .iload 4, 2), (92, .iaload, 1), (93, .iadd, 1), (94, .iastore, 1), (95, .aload_n 0, 1)],
   [(96, .iload_n 1, 1), (97, .iload 4, 2), (99, .aload_n 0, 1), (100, .getfield 55, 3), (103, .iload 4, 2), (105, .iaload, 1), (106, .invokevirtual 219, 3), (109, .istore 5, 2), (111, .aload_n 0, 1), (112, .getfield 213, 3), (115, .ifCond .le 30, 3), (118, .aload_n 0, 1), (119, .getfield 7, 3), (122, .iload_n 1, 1), (123, .bipush 110, 2), (125, .iadd, 1), (126, .aload_n 0, 1), (127, .getfield 7, 3)],
   [(130, .bipush 26, 2), (132, .iload 4, 2), (134, .iadd, 1), (135, .iaload, 1), (136, .iadd, 1), (137, .dup2, 1), (138, .iaload, 1), (139, .aload_n 0, 1), (140, .getfield 213, 3), (143, .iadd, 1), (144, .iastore, 1), (145, .aload_n 0, 1), (146, .getfield 7, 3), (149, .iload_n 1, 1), (150, .bipush 118, 2), (152, .iadd, 1), (153, .iload 4, 2), (155, .iadd, 1), (156, .iaload, 1), (157, .iconst 1, 1), (158, .if_icmp .ne 7, 3)],
   [(161, .iconst 0, 1), (162, .goto 5, 3), (165, .iload 5, 2), (167, .istore 5, 2), (169, .aload_n 0, 1), (170, .getfield 7, 3), (173, .iload_n 1, 1), (174, .bipush 126, 2), (176, .iadd, 1), (177, .iload 4, 2), (179, .iadd, 1), (180, .iload 5, 2), (182, .iastore, 1), (183, .aload_n 0, 1), (184, .getfield 7, 3), (187, .iload_n 1, 1), (188, .sipush 137, 3), (191, .iadd, 1)],
   [(192, .dup2, 1), (193, .iaload, 1), (194, .iload 5, 2), (196, .iadd, 1), (197, .iastore, 1), (198, .iload_n 3, 1), (199, .iload 5, 2), (201, .ifCond .le 15, 3), (204, .iconst 1, 1), (205, .aload_n 0, 1), (206, .getfield 19, 3), (209, .iload 4, 2), (211, .iaload, 1), (212, .ishl, 1), (213, .goto 4, 3), (216, .iconst 0, 1), (217, .ior, 1), (218, .istore_n 3, 1), (219, .iinc 4 1, 3), (222, .goto (-158), 3)],
   [(225, .iconst 0, 1), (226, .istore 4, 2), (228, .iload 4, 2), (230, .aload_n 0, 1), (231, .getfield 170, 3), (234, .if_icmp .ge 48, 3), (237, .aload_n 0, 1), (238, .getfield 179, 3), (241, .ifCond .le 35, 3), (244, .aload_n 0, 1), (245, .getfield 7, 3), (248, .iload_n 1, 1), (249, .bipush 102, 2), (251, .iadd, 1), (252, .iload 4, 2), (254, .iadd, 1), (255, .iaload, 1)],
   [(256, .aload_n 0, 1), (257, .getfield 179, 3), (260, .if_icmp .lt 16, 3), (263, .aload_n 0, 1), (264, .getfield 7, 3), (267, .iload_n 1, 1), (268, .bipush 118, 2), (270, .iadd, 1), (271, .iload 4, 2), (273, .iadd, 1), (274, .iconst 1, 1), (275, .iastore, 1), (276, .iinc 4 1, 3), (279, .goto (-51), 3), (282, .aload_n 0, 1), (283, .getfield 7, 3), (286, .iload_n 1, 1), (287, .sipush 134, 3)],
   [(290, .iadd, 1), (291, .dup2, 1), (292, .iaload, 1), (293, .iconst 1, 1), (294, .iadd, 1), (295, .iastore, 1), (296, .iload_n 3, 1), (297, .ireturn, 1)]]
def mm_r153 : mm_R := ((yX10_second, cX10_second, 6, (some .int), 2, false, [(6, 22), (1, 11), (0, 59)], (6, 23)),
   RX10, mm_t153, [(7, 0, 10, 0, 2, [(4, 232)]),
    (19, 0, 10, 9, 2, [(5, 1)]),
    (55, 0, 10, 33, 2, [(5, 25)]),
    (170, 0, 10, 3, 0, [(4, 235)]),
    (179, 0, 10, 6, 0, [(4, 238)]),
    (213, 0, 10, 34, 0, [(5, 26)]),
    (216, 1, 151, 10, 0, [(6, 24)]),
    (219, 1, 152, 10, 0, [(6, 32)])])
-- 154: "RainOrganModel" "dries"
def mm_t154 : mm_T := [[(0, .bipush 86, 2), (2, .istore_n 2, 1), (3, .iload_n 2, 1), (4, .sipush 140, 3), (7, .if_icmp .ge 18, 3), (10, .aload_n 0, 1), (11, .getfield 7, 3), (14, .iload_n 1, 1), (15, .iload_n 2, 1), (16, .iadd, 1), (17, .iconst 0, 1), (18, .iastore, 1), (19, .iinc 2 1, 3), (22, .goto (-19), 3), (25, .return_, 1)]]
def mm_r154 : mm_R := ((yX10_dries, cX10_dries, 3, none, 1, false, [(6, 42), (1, 11), (0, 63)], (6, 43)),
   RX10, mm_t154, [(7, 0, 10, 0, 2, [(4, 232)])])
-- 155: "RainOrganModel" "sumOf"
def mm_t155 : mm_T := [[(0, .iconst 0, 1), (1, .istore_n 3, 1), (2, .iconst 0, 1), (3, .istore 4, 2), (5, .iload 4, 2), (7, .bipush 8, 2), (9, .if_icmp .ge 23, 3), (12, .iload_n 3, 1), (13, .aload_n 0, 1), (14, .getfield 7, 3), (17, .iload_n 1, 1), (18, .iload_n 2, 1), (19, .iadd, 1), (20, .iload 4, 2), (22, .iadd, 1), (23, .iaload, 1), (24, .iadd, 1), (25, .istore_n 3, 1), (26, .iinc 4 1, 3), (29, .goto (-24), 3)],
   [(32, .iload_n 3, 1), (33, .ireturn, 1)]]
def mm_r155 : mm_R := ((yX10_sumOf, cX10_sumOf, 5, (some .int), 2, false, [(6, 50), (1, 11), (0, 64)], (6, 51)),
   RX10, mm_t155, [(7, 0, 10, 0, 2, [(4, 232)])])
-- 156: "RainOrganModel" "rain"
def mm_t156 : mm_T := [[(0, .iload_n 1, 1), (1, .i2l, 1), (2, .lconst 0, 1), (3, .ldc2_w 223, 3), (6, .invokestatic 81, 3), (9, .ifCond .eq 12, 3), (12, .aload_n 0, 1), (13, .iconst 0, 1), (14, .iload_n 1, 1), (15, .invokevirtual 225, 3), (18, .goto 4, 3), (21, .iconst (-1), 1), (22, .ireturn, 1)]]
def mm_r156 : mm_R := ((yX10_rain, cX10_rain, 2, (some .int), 1, false, [(6, 16), (1, 11), (6, 17)], (6, 18)),
   RX10, mm_t156, [(81, 2, 120, 10, 0, [(5, 140)]),
    (223, 11, 0, 0, 9, [(6, 19)]),
    (225, 1, 153, 10, 0, [(6, 20)])])
-- 157: "RainOrganModel" "dry"
def mm_t157 : mm_T := [[(0, .aload_n 0, 1), (1, .getfield 7, 3), (4, .sipush 134, 3), (7, .iaload, 1), (8, .istore_n 1, 1), (9, .aload_n 0, 1), (10, .iconst 0, 1), (11, .invokevirtual 228, 3), (14, .iload_n 1, 1), (15, .ireturn, 1)]]
def mm_r157 : mm_R := ((yX10_dry, cX10_dry, 2, (some .int), 0, false, [(6, 37), (1, 11), (6, 38)], (6, 39)),
   RX10, mm_t157, [(7, 0, 10, 0, 2, [(4, 232)]),
    (228, 1, 154, 10, 0, [(6, 40)])])
-- 158: "RainOrganModel" "water"
def mm_t158 : mm_T := [[(0, .iload_n 1, 1), (1, .tableswitch 91 0 5 #[39, 48, 57, 66, 74, 82], 39)],
   [(40, .aload_n 0, 1), (41, .getfield 7, 3), (44, .sipush 134, 3), (47, .iaload, 1), (48, .ireturn, 1), (49, .aload_n 0, 1), (50, .getfield 7, 3), (53, .sipush 135, 3), (56, .iaload, 1), (57, .ireturn, 1), (58, .aload_n 0, 1), (59, .getfield 7, 3), (62, .sipush 136, 3)],
   [(65, .iaload, 1), (66, .ireturn, 1), (67, .aload_n 0, 1), (68, .iconst 0, 1), (69, .bipush 86, 2), (71, .invokevirtual 231, 3), (74, .ireturn, 1), (75, .aload_n 0, 1), (76, .iconst 0, 1), (77, .bipush 110, 2), (79, .invokevirtual 231, 3), (82, .ireturn, 1), (83, .aload_n 0, 1), (84, .getfield 7, 3), (87, .sipush 137, 3), (90, .iaload, 1), (91, .ireturn, 1), (92, .iconst (-1), 1), (93, .ireturn, 1)]]
def mm_r158 : mm_R := ((yX10_water, cX10_water, 2, (some .int), 1, false, [(6, 45), (1, 11), (6, 46)], (6, 47)),
   RX10, mm_t158, [(7, 0, 10, 0, 2, [(4, 232)]),
    (231, 1, 155, 10, 0, [(6, 48)])])
-- 159: "RainOrganModel" "loud"
def mm_t159 : mm_T := [[(0, .aload_n 0, 1), (1, .iload_n 1, 1), (2, .invokevirtual 195, 3), (5, .ifCond .eq 15, 3), (8, .aload_n 0, 1), (9, .getfield 7, 3), (12, .bipush 126, 2), (14, .iload_n 1, 1), (15, .iadd, 1), (16, .iaload, 1), (17, .goto 4, 3), (20, .iconst (-1), 1), (21, .ireturn, 1)]]
def mm_r159 : mm_R := ((yX10_loud, cX10_loud, 2, (some .int), 1, false, [(6, 53), (1, 11), (6, 54)], (6, 55)),
   RX10, mm_t159, [(7, 0, 10, 0, 2, [(4, 232)]),
    (195, 1, 139, 10, 0, [(5, 222)])])
-- 160: "RainOrganModel" "lengthOf"
def mm_t160 : mm_T := [[(0, .aload_n 0, 1), (1, .getfield 7, 3), (4, .bipush 34, 2), (6, .bipush 13, 2), (8, .iload_n 1, 1), (9, .imul, 1), (10, .iadd, 1), (11, .iaload, 1), (12, .ireturn, 1)]]
def mm_r160 : mm_R := ((yX10_lengthOf, cX10_lengthOf, 2, (some .int), 1, false, [(6, 66), (1, 11), (0, 66)], (6, 67)),
   RX10, mm_t160, [(7, 0, 10, 0, 2, [(4, 232)])])
-- 161: "RainOrganModel" "showers"
def mm_t161 : mm_T := [[(0, .iconst 0, 1), (1, .istore_n 2, 1), (2, .iload_n 2, 1), (3, .aload_n 0, 1), (4, .iload_n 1, 1), (5, .invokevirtual 234, 3), (8, .if_icmp .ge 98, 3), (11, .aload_n 0, 1), (12, .getfield 58, 3), (15, .iload_n 2, 1), (16, .aload_n 0, 1), (17, .sipush 420, 3), (20, .aload_n 0, 1), (21, .getfield 7, 3), (24, .bipush 34, 2), (26, .bipush 13, 2), (28, .iload_n 1, 1), (29, .imul, 1), (30, .iadd, 1), (31, .iconst 1, 1)],
   [(32, .iadd, 1), (33, .iload_n 2, 1), (34, .iadd, 1), (35, .iaload, 1), (36, .invokevirtual 225, 3), (39, .iastore, 1), (40, .aload_n 0, 1), (41, .getfield 61, 3), (44, .iload_n 2, 1), (45, .aload_n 0, 1), (46, .sipush 420, 3), (49, .bipush 126, 2), (51, .invokevirtual 231, 3), (54, .iastore, 1), (55, .iconst 0, 1), (56, .istore_n 3, 1), (57, .iload_n 3, 1), (58, .aload_n 0, 1), (59, .getfield 170, 3), (62, .if_icmp .ge 38, 3)],
   [(65, .aload_n 0, 1), (66, .dup, 1), (67, .getfield 237, 3), (70, .aload_n 0, 1), (71, .getfield 7, 3), (74, .sipush 546, 3), (77, .iload_n 3, 1), (78, .iadd, 1), (79, .iaload, 1), (80, .ifCond .le 9, 3), (83, .iconst 1, 1), (84, .iload_n 3, 1), (85, .ishl, 1), (86, .goto 4, 3), (89, .iconst 0, 1), (90, .ior, 1), (91, .putfield 237, 3), (94, .iinc 3 1, 3)],
   [(97, .goto (-40), 3), (100, .iinc 2 1, 3), (103, .goto (-101), 3), (106, .return_, 1)]]
def mm_r161 : mm_R := ((yX10_showers, cX10_showers, 4, none, 1, false, [(6, 78), (1, 11), (0, 68)], (6, 79)),
   RX10, mm_t161, [(7, 0, 10, 0, 2, [(4, 232)]),
    (58, 0, 10, 35, 2, [(5, 27)]),
    (61, 0, 10, 36, 2, [(5, 28)]),
    (170, 0, 10, 3, 0, [(4, 235)]),
    (225, 1, 153, 10, 0, [(6, 20)]),
    (231, 1, 155, 10, 0, [(6, 48)]),
    (234, 1, 160, 10, 0, [(6, 64)]),
    (237, 0, 10, 37, 0, [(5, 29)])])
-- 162: "RainOrganModel" "plays2"
def mm_t162 : mm_T := [[(0, .aload_n 0, 1), (1, .sipush 420, 3), (4, .invokevirtual 228, 3), (7, .aload_n 0, 1), (8, .iconst 0, 1), (9, .putfield 237, 3), (12, .aload_n 0, 1), (13, .iload_n 1, 1), (14, .invokevirtual 240, 3), (17, .return_, 1)]]
def mm_r162 : mm_R := ((yX10_plays2, cX10_plays2, 2, none, 1, false, [(6, 74), (1, 11), (0, 67)], (6, 75)),
   RX10, mm_t162, [(228, 1, 154, 10, 0, [(6, 40)]),
    (237, 0, 10, 37, 0, [(5, 29)]),
    (240, 1, 161, 10, 0, [(6, 76)])])
-- 163: "RainOrganModel" "shower"
def mm_t163 : mm_T := [[(0, .aload_n 0, 1), (1, .iload_n 1, 1), (2, .invokevirtual 243, 3), (5, .ifCond .ne 5, 3), (8, .iconst (-1), 1), (9, .ireturn, 1), (10, .iload_n 2, 1), (11, .iconst (-1), 1), (12, .if_icmp .ne 11, 3), (15, .aload_n 0, 1), (16, .iload_n 1, 1), (17, .invokevirtual 234, 3), (20, .goto 40, 3), (23, .iload_n 2, 1), (24, .i2l, 1), (25, .lconst 0, 1), (26, .aload_n 0, 1), (27, .iload_n 1, 1), (28, .invokevirtual 234, 3), (31, .iconst 1, 1)],
   [(32, .isub, 1), (33, .i2l, 1), (34, .invokestatic 81, 3), (37, .ifCond .eq 22, 3), (40, .aload_n 0, 1), (41, .getfield 7, 3), (44, .bipush 34, 2), (46, .bipush 13, 2), (48, .iload_n 1, 1), (49, .imul, 1), (50, .iadd, 1), (51, .iconst 1, 1), (52, .iadd, 1), (53, .iload_n 2, 1), (54, .iadd, 1), (55, .iaload, 1), (56, .goto 4, 3), (59, .iconst (-1), 1), (60, .ireturn, 1)]]
def mm_r163 : mm_R := ((yX10_shower, cX10_shower, 3, (some .int), 2, false, [(6, 57), (1, 11), (6, 58)], (6, 59)),
   RX10, mm_t163, [(7, 0, 10, 0, 2, [(4, 232)]),
    (81, 2, 120, 10, 0, [(5, 140)]),
    (234, 1, 160, 10, 0, [(6, 64)]),
    (243, 1, 140, 10, 0, [(6, 60)])])
-- 164: "RainOrganModel" "plays"
def mm_t164 : mm_T := [[(0, .aload_n 0, 1), (1, .iload_n 1, 1), (2, .invokevirtual 243, 3), (5, .ifCond .eq 20, 3), (8, .iload_n 2, 1), (9, .i2l, 1), (10, .lconst 0, 1), (11, .aload_n 0, 1), (12, .iload_n 1, 1), (13, .invokevirtual 234, 3), (16, .iconst 1, 1), (17, .isub, 1), (18, .i2l, 1), (19, .invokestatic 81, 3), (22, .ifCond .ne 5, 3), (25, .iconst (-1), 1), (26, .ireturn, 1), (27, .aload_n 0, 1), (28, .iload_n 1, 1), (29, .invokevirtual 246, 3)],
   [(32, .aload_n 0, 1), (33, .getfield 58, 3), (36, .iload_n 2, 1), (37, .iaload, 1), (38, .ireturn, 1)]]
def mm_r164 : mm_R := ((yX10_plays, cX10_plays, 3, (some .int), 2, false, [(6, 69), (1, 11), (6, 70)], (6, 71)),
   RX10, mm_t164, [(58, 0, 10, 35, 2, [(5, 27)]),
    (81, 2, 120, 10, 0, [(5, 140)]),
    (234, 1, 160, 10, 0, [(6, 64)]),
    (243, 1, 140, 10, 0, [(6, 60)]),
    (246, 1, 162, 10, 0, [(6, 72)])])
-- 165: "RainOrganModel" "falls"
def mm_t165 : mm_T := [[(0, .aload_n 0, 1), (1, .iload_n 1, 1), (2, .invokevirtual 243, 3), (5, .ifCond .eq 15, 3), (8, .iload_n 2, 1), (9, .i2l, 1), (10, .lconst 0, 1), (11, .ldc2_w 249, 3), (14, .invokestatic 81, 3), (17, .ifCond .ne 5, 3), (20, .iconst (-1), 1), (21, .ireturn, 1), (22, .aload_n 0, 1), (23, .iload_n 1, 1), (24, .invokevirtual 246, 3), (27, .iconst 0, 1), (28, .istore_n 3, 1), (29, .bipush (-4), 2), (31, .istore 4, 2)],
   [(33, .iconst 0, 1), (34, .istore 5, 2), (36, .iload 5, 2), (38, .aload_n 0, 1), (39, .iload_n 1, 1), (40, .invokevirtual 234, 3), (43, .if_icmp .ge 52, 3), (46, .aload_n 0, 1), (47, .getfield 61, 3), (50, .iload 5, 2), (52, .iaload, 1), (53, .iload_n 3, 1), (54, .if_icmp .le 8, 3), (57, .iload 5, 2), (59, .goto 5, 3), (62, .iload 4, 2)],
   [(64, .istore 4, 2), (66, .aload_n 0, 1), (67, .getfield 61, 3), (70, .iload 5, 2), (72, .iaload, 1), (73, .iload_n 3, 1), (74, .if_icmp .le 13, 3), (77, .aload_n 0, 1), (78, .getfield 61, 3), (81, .iload 5, 2), (83, .iaload, 1), (84, .goto 4, 3), (87, .iload_n 3, 1), (88, .istore_n 3, 1), (89, .iinc 5 1, 3), (92, .goto (-56), 3), (95, .iconst 0, 1)],
   [(96, .istore 5, 2), (98, .iconst 0, 1), (99, .istore 6, 2), (101, .iload 6, 2), (103, .aload_n 0, 1), (104, .getfield 170, 3), (107, .if_icmp .ge 28, 3), (110, .iload 5, 2), (112, .aload_n 0, 1), (113, .getfield 7, 3), (116, .sipush 538, 3), (119, .iload 6, 2), (121, .iadd, 1), (122, .iaload, 1), (123, .iload 6, 2), (125, .ishl, 1), (126, .ior, 1), (127, .istore 5, 2)],
   [(129, .iinc 6 1, 3), (132, .goto (-31), 3), (135, .iload_n 2, 1), (136, .tableswitch 97 0 6 #[44, 53, 62, 72, 82, 91, 94], 44)],
   [(180, .aload_n 0, 1), (181, .getfield 7, 3), (184, .sipush 555, 3), (187, .iaload, 1), (188, .ireturn, 1), (189, .aload_n 0, 1), (190, .getfield 7, 3)],
   [(193, .sipush 556, 3), (196, .iaload, 1), (197, .ireturn, 1), (198, .aload_n 0, 1), (199, .sipush 420, 3), (202, .bipush 86, 2), (204, .invokevirtual 231, 3), (207, .ireturn, 1), (208, .aload_n 0, 1), (209, .sipush 420, 3), (212, .bipush 110, 2), (214, .invokevirtual 231, 3), (217, .ireturn, 1), (218, .aload_n 0, 1), (219, .getfield 7, 3), (222, .sipush 557, 3)],
   [(225, .iaload, 1), (226, .ireturn, 1), (227, .iload 4, 2), (229, .ireturn, 1), (230, .iload 5, 2), (232, .ireturn, 1), (233, .iconst 1, 1), (234, .aload_n 0, 1), (235, .getfield 170, 3), (238, .ishl, 1), (239, .iconst 1, 1), (240, .isub, 1), (241, .aload_n 0, 1), (242, .getfield 237, 3), (245, .iconst (-1), 1), (246, .ixor, 1), (247, .iand, 1), (248, .ireturn, 1)]]
def mm_r165 : mm_R := ((yX10_falls, cX10_falls, 7, (some .int), 2, false, [(6, 81), (1, 11), (6, 82)], (6, 83)),
   RX10, mm_t165, [(7, 0, 10, 0, 2, [(4, 232)]),
    (61, 0, 10, 36, 2, [(5, 28)]),
    (81, 2, 120, 10, 0, [(5, 140)]),
    (170, 0, 10, 3, 0, [(4, 235)]),
    (231, 1, 155, 10, 0, [(6, 48)]),
    (234, 1, 160, 10, 0, [(6, 64)]),
    (237, 0, 10, 37, 0, [(5, 29)]),
    (243, 1, 140, 10, 0, [(6, 60)]),
    (246, 1, 162, 10, 0, [(6, 72)]),
    (249, 11, 0, 0, 7, [(6, 84)])])
-- 166: "RainOrganModel" "tune"
def mm_t166 : mm_T := [[(0, .iload_n 1, 1), (1, .i2l, 1), (2, .lconst 0, 1), (3, .aload_n 0, 1), (4, .getfield 7, 3), (7, .bipush 73, 2), (9, .iaload, 1), (10, .iconst 1, 1), (11, .isub, 1), (12, .i2l, 1), (13, .invokestatic 81, 3), (16, .ifCond .eq 15, 3), (19, .aload_n 0, 1), (20, .getfield 7, 3), (23, .bipush 74, 2), (25, .iload_n 1, 1), (26, .iadd, 1), (27, .iaload, 1), (28, .goto 4, 3), (31, .iconst (-1), 1)],
   [(32, .ireturn, 1)]]
def mm_r166 : mm_R := ((yX10_tune, cX10_tune, 2, (some .int), 1, false, [(6, 86), (1, 11), (6, 87)], (6, 88)),
   RX10, mm_t166, [(7, 0, 10, 0, 2, [(4, 232)]),
    (81, 2, 120, 10, 0, [(5, 140)])])
-- 167: "RainOrganModel" "tells"
def mm_t167 : mm_T := [[(0, .iload_n 1, 1), (1, .i2l, 1), (2, .lconst 0, 1), (3, .aload_n 0, 1), (4, .getfield 7, 3), (7, .bipush 73, 2), (9, .iaload, 1), (10, .i2l, 1), (11, .invokestatic 81, 3), (14, .ifCond .eq 15, 3), (17, .iload_n 2, 1), (18, .i2l, 1), (19, .lconst 0, 1), (20, .ldc2_w 251, 3), (23, .invokestatic 81, 3), (26, .ifCond .ne 5, 3), (29, .iconst (-1), 1), (30, .ireturn, 1), (31, .iload_n 1, 1)],
   [(32, .bipush 12, 2), (34, .if_icmp .ne 6, 3), (37, .bipush (-3), 2), (39, .ireturn, 1), (40, .aload_n 0, 1), (41, .getfield 7, 3), (44, .bipush 74, 2), (46, .iload_n 1, 1), (47, .iadd, 1), (48, .iload_n 2, 1), (49, .iastore, 1), (50, .aload_n 0, 1), (51, .getfield 7, 3), (54, .bipush 73, 2), (56, .dup2, 1), (57, .iaload, 1), (58, .iload_n 1, 1), (59, .aload_n 0, 1), (60, .getfield 7, 3), (63, .bipush 73, 2)],
   [(65, .iaload, 1), (66, .if_icmp .ne 7, 3), (69, .iconst 1, 1), (70, .goto 4, 3), (73, .iconst 0, 1), (74, .iadd, 1), (75, .iastore, 1), (76, .aload_n 0, 1), (77, .getfield 7, 3), (80, .bipush 73, 2), (82, .iaload, 1), (83, .ireturn, 1)]]
def mm_r167 : mm_R := ((yX10_tells, cX10_tells, 3, (some .int), 2, false, [(6, 90), (1, 11), (6, 91)], (6, 92)),
   RX10, mm_t167, [(7, 0, 10, 0, 2, [(4, 232)]),
    (81, 2, 120, 10, 0, [(5, 140)]),
    (251, 11, 0, 0, 255, [(6, 93)])])
-- 168: "RainOrganModel" "bitsOf"
def mm_t168 : mm_T := [[(0, .iconst 0, 1), (1, .istore_n 1, 1), (2, .iconst 0, 1), (3, .istore_n 2, 1), (4, .iload_n 2, 1), (5, .bipush 8, 2), (7, .if_icmp .ge 17, 3), (10, .iload_n 1, 1), (11, .iload_n 0, 1), (12, .iload_n 2, 1), (13, .ishr, 1), (14, .iconst 1, 1), (15, .iand, 1), (16, .iadd, 1), (17, .istore_n 1, 1), (18, .iinc 2 1, 3), (21, .goto (-17), 3), (24, .iload_n 1, 1), (25, .ireturn, 1)]]
def mm_r168 : mm_R := ((yX10_bitsOf, cX10_bitsOf, 3, (some .int), 1, true, [(6, 103), (1, 11)], (6, 104)),
   RX10, mm_t168, [])
-- 169: "RainOrganModel" "farOf"
def mm_t169 : mm_T := [[(0, .aload_n 0, 1), (1, .iload_n 1, 1), (2, .invokevirtual 246, 3), (5, .iconst 0, 1), (6, .istore_n 2, 1), (7, .iconst 0, 1), (8, .istore_n 3, 1), (9, .iload_n 3, 1), (10, .bipush 12, 2), (12, .if_icmp .ge 67, 3), (15, .iload_n 3, 1), (16, .aload_n 0, 1), (17, .iload_n 1, 1), (18, .invokevirtual 234, 3), (21, .if_icmp .ge 12, 3), (24, .aload_n 0, 1), (25, .getfield 58, 3), (28, .iload_n 3, 1), (29, .iaload, 1), (30, .goto 4, 3)],
   [(33, .iconst 0, 1), (34, .istore 4, 2), (36, .iload_n 3, 1), (37, .aload_n 0, 1), (38, .getfield 7, 3), (41, .bipush 73, 2), (43, .iaload, 1), (44, .if_icmp .ge 15, 3), (47, .aload_n 0, 1), (48, .getfield 7, 3), (51, .bipush 74, 2), (53, .iload_n 3, 1), (54, .iadd, 1), (55, .iaload, 1), (56, .goto 4, 3), (59, .iconst 0, 1), (60, .istore 5, 2), (62, .iload_n 2, 1), (63, .iload 4, 2)],
   [(65, .iload 5, 2), (67, .ixor, 1), (68, .invokestatic 253, 3), (71, .iadd, 1), (72, .istore_n 2, 1), (73, .iinc 3 1, 3), (76, .goto (-67), 3), (79, .iload_n 2, 1), (80, .ireturn, 1)]]
def mm_r169 : mm_R := ((yX10_farOf, cX10_farOf, 6, (some .int), 1, false, [(6, 100), (1, 11), (0, 69)], (6, 101)),
   RX10, mm_t169, [(7, 0, 10, 0, 2, [(4, 232)]),
    (58, 0, 10, 35, 2, [(5, 27)]),
    (234, 1, 160, 10, 0, [(6, 64)]),
    (246, 1, 162, 10, 0, [(6, 72)]),
    (253, 2, 168, 10, 0, [(6, 102)])])
-- 170: "RainOrganModel" "far"
def mm_t170 : mm_T := [[(0, .aload_n 0, 1), (1, .iload_n 1, 1), (2, .invokevirtual 243, 3), (5, .ifCond .eq 11, 3), (8, .aload_n 0, 1), (9, .iload_n 1, 1), (10, .invokevirtual 256, 3), (13, .goto 4, 3), (16, .iconst (-1), 1), (17, .ireturn, 1)]]
def mm_r170 : mm_R := ((yX10_far, cX10_far, 2, (some .int), 1, false, [(6, 95), (1, 11), (6, 96)], (6, 97)),
   RX10, mm_t170, [(243, 1, 140, 10, 0, [(6, 60)]),
    (256, 1, 169, 10, 0, [(6, 98)])])
-- 171: "RainOrganModel" "layBest"
def mm_t171 : mm_T := [[(0, .aload_n 0, 1), (1, .invokevirtual 203, 3), (4, .istore_n 2, 1), (5, .aload_n 0, 1), (6, .bipush (-4), 2), (8, .putfield 259, 3), (11, .aload_n 0, 1), (12, .iconst 0, 1), (13, .putfield 262, 3), (16, .iconst 0, 1), (17, .istore_n 3, 1), (18, .iload_n 3, 1), (19, .aload_n 0, 1), (20, .invokevirtual 200, 3), (23, .if_icmp .ge 98, 3), (26, .aload_n 0, 1), (27, .iload_n 3, 1), (28, .invokevirtual 206, 3), (31, .aload_n 0, 1)],
   [(32, .iload_n 1, 1), (33, .invokevirtual 256, 3), (36, .istore 4, 2), (38, .aload_n 0, 1), (39, .aload_n 0, 1), (40, .getfield 259, 3), (43, .bipush (-4), 2), (45, .if_icmp .eq 12, 3), (48, .iload 4, 2), (50, .aload_n 0, 1), (51, .getfield 262, 3), (54, .if_icmp .ge 7, 3), (57, .iconst 1, 1), (58, .goto 25, 3), (61, .iload 4, 2), (63, .aload_n 0, 1)],
   [(64, .getfield 262, 3), (67, .if_icmp .ne 12, 3), (70, .aload_n 0, 1), (71, .getfield 265, 3), (74, .iconst 1, 1), (75, .iadd, 1), (76, .goto 7, 3), (79, .aload_n 0, 1), (80, .getfield 265, 3), (83, .putfield 265, 3), (86, .aload_n 0, 1), (87, .getfield 259, 3), (90, .bipush (-4), 2), (92, .if_icmp .eq 12, 3), (95, .iload 4, 2)],
   [(97, .aload_n 0, 1), (98, .getfield 262, 3), (101, .if_icmp .ge 14, 3), (104, .aload_n 0, 1), (105, .iload_n 3, 1), (106, .putfield 259, 3), (109, .aload_n 0, 1), (110, .iload 4, 2), (112, .putfield 262, 3), (115, .iinc 3 1, 3), (118, .goto (-100), 3), (121, .aload_n 0, 1), (122, .iload_n 2, 1), (123, .invokevirtual 206, 3), (126, .return_, 1)]]
def mm_r171 : mm_R := ((yX10_layBest, cX10_layBest, 5, none, 1, false, [(6, 111), (1, 11), (0, 70)], (6, 112)),
   RX10, mm_t171, [(200, 1, 146, 10, 0, [(6, 3)]),
    (203, 1, 147, 10, 0, [(6, 7)]),
    (206, 1, 148, 10, 0, [(6, 11)]),
    (256, 1, 169, 10, 0, [(6, 98)]),
    (259, 0, 10, 38, 0, [(5, 30)]),
    (262, 0, 10, 39, 0, [(5, 31)]),
    (265, 0, 10, 40, 0, [(5, 32)])])
-- 172: "RainOrganModel" "best"
def mm_t172 : mm_T := [[(0, .aload_n 0, 1), (1, .iload_n 1, 1), (2, .invokevirtual 243, 3), (5, .ifCond .eq 15, 3), (8, .iload_n 2, 1), (9, .i2l, 1), (10, .lconst 0, 1), (11, .ldc2_w 198, 3), (14, .invokestatic 81, 3), (17, .ifCond .ne 5, 3), (20, .iconst (-1), 1), (21, .ireturn, 1), (22, .aload_n 0, 1), (23, .iload_n 1, 1), (24, .invokevirtual 268, 3), (27, .iload_n 2, 1), (28, .ifCond .ne 10, 3), (31, .aload_n 0, 1)],
   [(32, .getfield 259, 3), (35, .goto 19, 3), (38, .iload_n 2, 1), (39, .iconst 1, 1), (40, .if_icmp .ne 10, 3), (43, .aload_n 0, 1), (44, .getfield 262, 3), (47, .goto 7, 3), (50, .aload_n 0, 1), (51, .getfield 265, 3), (54, .ireturn, 1)]]
def mm_r172 : mm_R := ((yX10_best, cX10_best, 3, (some .int), 2, false, [(6, 106), (1, 11), (6, 107)], (6, 108)),
   RX10, mm_t172, [(81, 2, 120, 10, 0, [(5, 140)]),
    (198, 11, 0, 0, 2, [(5, 230)]),
    (243, 1, 140, 10, 0, [(6, 60)]),
    (259, 0, 10, 38, 0, [(5, 30)]),
    (262, 0, 10, 39, 0, [(5, 31)]),
    (265, 0, 10, 40, 0, [(5, 32)]),
    (268, 1, 171, 10, 0, [(6, 109)])])
-- 173: "RainOrganModel" "unlikePegs"
def mm_t173 : mm_T := [[(0, .iconst 0, 1), (1, .istore_n 3, 1), (2, .iload_n 1, 1), (3, .istore 4, 2), (5, .iload_n 2, 1), (6, .istore 5, 2), (8, .iconst 0, 1), (9, .istore 6, 2), (11, .iload 6, 2), (13, .aload_n 0, 1), (14, .getfield 167, 3), (17, .if_icmp .ge 40, 3), (20, .iload_n 3, 1), (21, .iload 4, 2), (23, .iconst 3, 1), (24, .irem, 1), (25, .iload 5, 2), (27, .iconst 3, 1), (28, .irem, 1), (29, .if_icmp .ne 7, 3)],
   [(32, .iconst 0, 1), (33, .goto 4, 3), (36, .iconst 1, 1), (37, .iadd, 1), (38, .istore_n 3, 1), (39, .iload 4, 2), (41, .iconst 3, 1), (42, .idiv, 1), (43, .istore 4, 2), (45, .iload 5, 2), (47, .iconst 3, 1), (48, .idiv, 1), (49, .istore 5, 2), (51, .iinc 6 1, 3), (54, .goto (-43), 3), (57, .iload_n 3, 1), (58, .ireturn, 1)]]
def mm_r173 : mm_R := ((yX10_unlikePegs, cX10_unlikePegs, 7, (some .int), 2, false, [(6, 119), (1, 11), (0, 71)], (6, 120)),
   RX10, mm_t173, [(167, 0, 10, 2, 0, [(4, 234)])])
-- 174: "RainOrganModel" "fewest"
def mm_t174 : mm_T := [[(0, .aload_n 0, 1), (1, .iload_n 1, 1), (2, .invokevirtual 243, 3), (5, .ifCond .eq 13, 3), (8, .iload_n 2, 1), (9, .i2l, 1), (10, .lconst 0, 1), (11, .lconst 1, 1), (12, .invokestatic 81, 3), (15, .ifCond .ne 5, 3), (18, .iconst (-1), 1), (19, .ireturn, 1), (20, .aload_n 0, 1), (21, .iload_n 1, 1), (22, .invokevirtual 268, 3), (25, .aload_n 0, 1), (26, .invokevirtual 203, 3), (29, .istore_n 3, 1), (30, .bipush (-4), 2)],
   [(32, .istore 4, 2), (34, .iconst 0, 1), (35, .istore 5, 2), (37, .iconst 0, 1), (38, .istore 6, 2), (40, .iload 6, 2), (42, .aload_n 0, 1), (43, .invokevirtual 200, 3), (46, .if_icmp .ge 58, 3), (49, .aload_n 0, 1), (50, .iload 6, 2), (52, .invokevirtual 206, 3), (55, .aload_n 0, 1), (56, .iload 6, 2), (58, .iload_n 3, 1), (59, .invokevirtual 271, 3), (62, .istore 7, 2)],
   [(64, .iload 4, 2), (66, .bipush (-4), 2), (68, .if_icmp .eq 10, 3), (71, .iload 7, 2), (73, .iload 5, 2), (75, .if_icmp .ge 23, 3), (78, .aload_n 0, 1), (79, .iload_n 1, 1), (80, .invokevirtual 256, 3), (83, .aload_n 0, 1), (84, .getfield 262, 3), (87, .if_icmp .ne 11, 3), (90, .iload 6, 2), (92, .istore 4, 2), (94, .iload 7, 2)],
   [(96, .istore 5, 2), (98, .iinc 6 1, 3), (101, .goto (-61), 3), (104, .aload_n 0, 1), (105, .iload_n 3, 1), (106, .invokevirtual 206, 3), (109, .iload_n 2, 1), (110, .ifCond .ne 8, 3), (113, .iload 4, 2), (115, .goto 5, 3), (118, .iload 5, 2), (120, .ireturn, 1)]]
def mm_r174 : mm_R := ((yX10_fewest, cX10_fewest, 8, (some .int), 2, false, [(6, 114), (1, 11), (6, 115)], (6, 116)),
   RX10, mm_t174, [(81, 2, 120, 10, 0, [(5, 140)]),
    (200, 1, 146, 10, 0, [(6, 3)]),
    (203, 1, 147, 10, 0, [(6, 7)]),
    (206, 1, 148, 10, 0, [(6, 11)]),
    (243, 1, 140, 10, 0, [(6, 60)]),
    (256, 1, 169, 10, 0, [(6, 98)]),
    (262, 0, 10, 39, 0, [(5, 31)]),
    (268, 1, 171, 10, 0, [(6, 109)]),
    (271, 1, 173, 10, 0, [(6, 117)])])
-- 175: "RainOrganModel" "all"
def mm_t175 : mm_T := [[(0, .iload_n 1, 1), (1, .i2l, 1), (2, .lconst 0, 1), (3, .lconst 1, 1), (4, .invokestatic 81, 3), (7, .ifCond .ne 5, 3), (10, .iconst (-1), 1), (11, .ireturn, 1), (12, .aload_n 0, 1), (13, .getfield 173, 3), (16, .ifCond .ne 6, 3), (19, .bipush (-2), 2), (21, .ireturn, 1), (22, .aload_n 0, 1), (23, .invokevirtual 203, 3), (26, .istore_n 2, 1), (27, .bipush (-4), 2), (29, .istore_n 3, 1), (30, .iconst 0, 1), (31, .istore 4, 2)],
   [(33, .iconst 0, 1), (34, .istore 5, 2), (36, .iload 5, 2), (38, .aload_n 0, 1), (39, .invokevirtual 200, 3), (42, .if_icmp .ge 93, 3), (45, .aload_n 0, 1), (46, .iload 5, 2), (48, .invokevirtual 206, 3), (51, .iconst 0, 1), (52, .istore 6, 2), (54, .iconst 0, 1), (55, .istore 7, 2), (57, .iload 7, 2), (59, .aload_n 0, 1), (60, .getfield 173, 3), (63, .if_icmp .ge 20, 3)],
   [(66, .iload 6, 2), (68, .aload_n 0, 1), (69, .iload 7, 2), (71, .invokevirtual 256, 3), (74, .iadd, 1), (75, .istore 6, 2), (77, .iinc 7 1, 3), (80, .goto (-23), 3), (83, .iload_n 3, 1), (84, .bipush (-4), 2), (86, .if_icmp .eq 10, 3), (89, .iload 6, 2), (91, .iload 4, 2), (93, .if_icmp .ge 7, 3)],
   [(96, .iconst 1, 1), (97, .goto 4, 3), (100, .iconst 0, 1), (101, .istore 7, 2), (103, .iload 7, 2), (105, .ifCond .eq 8, 3), (108, .iload 5, 2), (110, .goto 4, 3), (113, .iload_n 3, 1), (114, .istore_n 3, 1), (115, .iload 7, 2), (117, .ifCond .eq 8, 3), (120, .iload 6, 2), (122, .goto 5, 3), (125, .iload 4, 2), (127, .istore 4, 2)],
   [(129, .iinc 5 1, 3), (132, .goto (-96), 3), (135, .aload_n 0, 1), (136, .iload_n 2, 1), (137, .invokevirtual 206, 3), (140, .iload_n 1, 1), (141, .ifCond .ne 7, 3), (144, .iload_n 3, 1), (145, .goto 5, 3), (148, .iload 4, 2), (150, .ireturn, 1)]]
def mm_r175 : mm_R := ((yX10_all, cX10_all, 8, (some .int), 1, false, [(6, 122), (1, 11), (6, 123)], (6, 124)),
   RX10, mm_t175, [(81, 2, 120, 10, 0, [(5, 140)]),
    (173, 0, 10, 4, 0, [(4, 236)]),
    (200, 1, 146, 10, 0, [(6, 3)]),
    (203, 1, 147, 10, 0, [(6, 7)]),
    (206, 1, 148, 10, 0, [(6, 11)]),
    (256, 1, 169, 10, 0, [(6, 98)])])
-- 176: "RainOrganModel" "wakes"
def mm_t176 : mm_T := [[(0, .aload_n 0, 1), (1, .iload_n 1, 1), (2, .invokevirtual 246, 3), (5, .iconst 0, 1), (6, .istore_n 2, 1), (7, .iconst 0, 1), (8, .istore_n 3, 1), (9, .iload_n 3, 1), (10, .aload_n 0, 1), (11, .getfield 176, 3), (14, .if_icmp .ge 80, 3), (17, .aload_n 0, 1), (18, .getfield 22, 3), (21, .iconst 3, 1), (22, .iload_n 3, 1), (23, .imul, 1), (24, .iaload, 1), (25, .istore 4, 2), (27, .iload 4, 2), (29, .aload_n 0, 1), (30, .getfield 22, 3)],
   [(33, .iconst 3, 1), (34, .iload_n 3, 1), (35, .imul, 1), (36, .iconst 1, 1), (37, .iadd, 1), (38, .iaload, 1), (39, .if_icmp .gt 49, 3), (42, .iload 4, 2), (44, .aload_n 0, 1), (45, .iload_n 1, 1), (46, .invokevirtual 234, 3), (49, .if_icmp .ge 39, 3), (52, .iload_n 2, 1), (53, .aload_n 0, 1), (54, .getfield 61, 3), (57, .iload 4, 2), (59, .iaload, 1), (60, .aload_n 0, 1), (61, .getfield 22, 3)],
   [(64, .iconst 3, 1), (65, .iload_n 3, 1), (66, .imul, 1), (67, .iconst 2, 1), (68, .iadd, 1), (69, .iaload, 1), (70, .if_icmp .lt 9, 3), (73, .iconst 1, 1), (74, .iload_n 3, 1), (75, .ishl, 1), (76, .goto 4, 3), (79, .iconst 0, 1), (80, .ior, 1), (81, .istore_n 2, 1), (82, .iinc 4 1, 3), (85, .goto (-58), 3), (88, .iinc 3 1, 3), (91, .goto (-82), 3), (94, .iload_n 2, 1), (95, .ireturn, 1)]]
def mm_r176 : mm_R := ((yX10_wakes, cX10_wakes, 5, (some .int), 1, false, [(6, 131), (1, 11), (0, 72)], (6, 132)),
   RX10, mm_t176, [(22, 0, 10, 10, 2, [(5, 2)]),
    (61, 0, 10, 36, 2, [(5, 28)]),
    (176, 0, 10, 5, 0, [(4, 237)]),
    (234, 1, 160, 10, 0, [(6, 64)]),
    (246, 1, 162, 10, 0, [(6, 72)])])
-- 177: "RainOrganModel" "quiet"
def mm_t177 : mm_T := [[(0, .aload_n 0, 1), (1, .iload_n 1, 1), (2, .invokevirtual 243, 3), (5, .ifCond .eq 15, 3), (8, .iload_n 2, 1), (9, .i2l, 1), (10, .lconst 0, 1), (11, .ldc2_w 198, 3), (14, .invokestatic 81, 3), (17, .ifCond .ne 5, 3), (20, .iconst (-1), 1), (21, .ireturn, 1), (22, .aload_n 0, 1), (23, .invokevirtual 203, 3), (26, .istore_n 3, 1), (27, .bipush (-4), 2), (29, .istore 4, 2), (31, .iconst 0, 1)],
   [(32, .istore 5, 2), (34, .iconst 0, 1), (35, .istore 6, 2), (37, .iconst 0, 1), (38, .istore 7, 2), (40, .iload 7, 2), (42, .aload_n 0, 1), (43, .invokevirtual 200, 3), (46, .if_icmp .ge 106, 3), (49, .aload_n 0, 1), (50, .iload 7, 2), (52, .invokevirtual 206, 3), (55, .aload_n 0, 1), (56, .iload_n 1, 1), (57, .invokevirtual 274, 3), (60, .ifCond .ne 7, 3), (63, .iconst 1, 1)],
   [(64, .goto 4, 3), (67, .iconst 0, 1), (68, .istore 8, 2), (70, .aload_n 0, 1), (71, .iload_n 1, 1), (72, .invokevirtual 256, 3), (75, .istore 9, 2), (77, .iload 8, 2), (79, .ifCond .eq 21, 3), (82, .iload 4, 2), (84, .bipush (-4), 2), (86, .if_icmp .eq 10, 3), (89, .iload 9, 2), (91, .iload 5, 2), (93, .if_icmp .ge 7, 3)],
   [(96, .iconst 1, 1), (97, .goto 4, 3), (100, .iconst 0, 1), (101, .istore 10, 2), (103, .iload 10, 2), (105, .ifCond .eq 8, 3), (108, .iload 7, 2), (110, .goto 5, 3), (113, .iload 4, 2), (115, .istore 4, 2), (117, .iload 10, 2), (119, .ifCond .eq 8, 3), (122, .iload 9, 2), (124, .goto 5, 3), (127, .iload 5, 2)],
   [(129, .istore 5, 2), (131, .iload 6, 2), (133, .iload 8, 2), (135, .ifCond .eq 7, 3), (138, .iconst 1, 1), (139, .goto 4, 3), (142, .iconst 0, 1), (143, .iadd, 1), (144, .istore 6, 2), (146, .iinc 7 1, 3), (149, .goto (-109), 3), (152, .aload_n 0, 1), (153, .iload_n 3, 1), (154, .invokevirtual 206, 3), (157, .iload_n 2, 1), (158, .iconst 2, 1), (159, .if_icmp .ne 8, 3)],
   [(162, .iload 6, 2), (164, .goto 21, 3), (167, .iload 4, 2), (169, .bipush (-4), 2), (171, .if_icmp .eq 7, 3), (174, .iload_n 2, 1), (175, .ifCond .ne 8, 3), (178, .iload 4, 2), (180, .goto 5, 3), (183, .iload 5, 2), (185, .ireturn, 1)]]
def mm_r177 : mm_R := ((yX10_quiet, cX10_quiet, 11, (some .int), 2, false, [(6, 126), (1, 11), (6, 127)], (6, 128)),
   RX10, mm_t177, [(81, 2, 120, 10, 0, [(5, 140)]),
    (198, 11, 0, 0, 2, [(5, 230)]),
    (200, 1, 146, 10, 0, [(6, 3)]),
    (203, 1, 147, 10, 0, [(6, 7)]),
    (206, 1, 148, 10, 0, [(6, 11)]),
    (243, 1, 140, 10, 0, [(6, 60)]),
    (256, 1, 169, 10, 0, [(6, 98)]),
    (274, 1, 176, 10, 0, [(6, 129)])])
-- 178: "RainOrganModel" "woken"
def mm_t178 : mm_T := [[(0, .aload_n 0, 1), (1, .iload_n 1, 1), (2, .invokevirtual 243, 3), (5, .ifCond .eq 11, 3), (8, .aload_n 0, 1), (9, .iload_n 1, 1), (10, .invokevirtual 274, 3), (13, .goto 4, 3), (16, .iconst (-1), 1), (17, .ireturn, 1)]]
def mm_r178 : mm_R := ((yX10_woken, cX10_woken, 2, (some .int), 1, false, [(6, 134), (1, 11), (6, 135)], (6, 136)),
   RX10, mm_t178, [(243, 1, 140, 10, 0, [(6, 60)]),
    (274, 1, 176, 10, 0, [(6, 129)])])
-- 179: "RainOrganModel" "heard"
def mm_t179 : mm_T := [[(0, .iload_n 1, 1), (1, .i2l, 1), (2, .lconst 0, 1), (3, .lconst 1, 1), (4, .invokestatic 81, 3), (7, .ifCond .ne 5, 3), (10, .iconst (-1), 1), (11, .ireturn, 1), (12, .aload_n 0, 1), (13, .getfield 7, 3), (16, .bipush 73, 2), (18, .iaload, 1), (19, .istore_n 2, 1), (20, .iload_n 2, 1), (21, .i2l, 1), (22, .lconst 1, 1), (23, .ldc2_w 140, 3), (26, .invokestatic 81, 3), (29, .ifCond .ne 6, 3)],
   [(32, .bipush (-2), 2), (34, .ireturn, 1), (35, .iconst 0, 1), (36, .istore_n 3, 1), (37, .bipush (-4), 2), (39, .istore 4, 2), (41, .iconst 0, 1), (42, .istore 5, 2), (44, .iload 5, 2), (46, .iconst 1, 1), (47, .iconst 2, 1), (48, .iload_n 2, 1), (49, .imul, 1), (50, .ishl, 1), (51, .if_icmp .ge 113, 3), (54, .iconst 1, 1), (55, .istore 6, 2), (57, .aload_n 0, 1), (58, .sipush 420, 3), (61, .invokevirtual 228, 3)],
   [(64, .iconst 0, 1), (65, .istore 7, 2), (67, .iload 7, 2), (69, .iload_n 2, 1), (70, .if_icmp .ge 54, 3), (73, .iload 6, 2), (75, .ifCond .eq 49, 3), (78, .aload_n 0, 1), (79, .sipush 420, 3), (82, .iload 5, 2), (84, .iconst 2, 1), (85, .iload_n 2, 1), (86, .iconst 1, 1), (87, .isub, 1), (88, .iload 7, 2), (90, .isub, 1), (91, .imul, 1), (92, .ishr, 1), (93, .iconst 3, 1), (94, .iand, 1), (95, .invokevirtual 225, 3)],
   [(98, .aload_n 0, 1), (99, .getfield 7, 3), (102, .bipush 74, 2), (104, .iload 7, 2), (106, .iadd, 1), (107, .iaload, 1), (108, .if_icmp .ne 7, 3), (111, .iconst 1, 1), (112, .goto 4, 3), (115, .iconst 0, 1), (116, .istore 6, 2), (118, .iinc 7 1, 3), (121, .goto (-54), 3), (124, .iload 6, 2), (126, .ifCond .eq 15, 3)],
   [(129, .iload 4, 2), (131, .bipush (-4), 2), (133, .if_icmp .ne 8, 3), (136, .iload 5, 2), (138, .goto 5, 3), (141, .iload 4, 2), (143, .istore 4, 2), (145, .iload_n 3, 1), (146, .iload 6, 2), (148, .ifCond .eq 7, 3), (151, .iconst 1, 1), (152, .goto 4, 3), (155, .iconst 0, 1), (156, .iadd, 1), (157, .istore_n 3, 1), (158, .iinc 5 1, 3)],
   [(161, .goto (-117), 3), (164, .iload_n 1, 1), (165, .ifCond .ne 7, 3), (168, .iload_n 3, 1), (169, .goto 5, 3), (172, .iload 4, 2), (174, .ireturn, 1)]]
def mm_r179 : mm_R := ((yX10_heard, cX10_heard, 8, (some .int), 1, false, [(6, 138), (1, 11), (6, 139)], (6, 140)),
   RX10, mm_t179, [(7, 0, 10, 0, 2, [(4, 232)]),
    (81, 2, 120, 10, 0, [(5, 140)]),
    (140, 11, 0, 0, 5, [(5, 192)]),
    (225, 1, 153, 10, 0, [(6, 20)]),
    (228, 1, 154, 10, 0, [(6, 40)])])
-- 180: "RainOrganModel" "blocked"
def mm_t180 : mm_T := [[(0, .aload_n 0, 1), (1, .iload_n 1, 1), (2, .invokevirtual 243, 3), (5, .ifCond .ne 5, 3), (8, .iconst (-1), 1), (9, .ireturn, 1), (10, .aload_n 0, 1), (11, .iload_n 1, 1), (12, .invokevirtual 256, 3), (15, .ifCond .ne 8, 3), (18, .bipush 32, 2), (20, .goto 4, 3), (23, .iconst 0, 1), (24, .istore_n 2, 1), (25, .iconst 0, 1), (26, .istore_n 3, 1), (27, .iload_n 3, 1), (28, .aload_n 0, 1), (29, .getfield 167, 3)],
   [(32, .if_icmp .ge 56, 3), (35, .aload_n 0, 1), (36, .getfield 7, 3), (39, .iconst 5, 1), (40, .iload_n 3, 1), (41, .iadd, 1), (42, .iaload, 1), (43, .ifCond .ne 39, 3), (46, .aload_n 0, 1), (47, .getfield 7, 3), (50, .iconst 5, 1), (51, .iload_n 3, 1), (52, .iadd, 1), (53, .iconst 1, 1), (54, .iastore, 1), (55, .iload_n 2, 1), (56, .aload_n 0, 1), (57, .iload_n 1, 1), (58, .invokevirtual 256, 3), (61, .ifCond .ne 9, 3)],
   [(64, .iconst 1, 1), (65, .iload_n 3, 1), (66, .ishl, 1), (67, .goto 4, 3), (70, .iconst 0, 1), (71, .ior, 1), (72, .istore_n 2, 1), (73, .aload_n 0, 1), (74, .getfield 7, 3), (77, .iconst 5, 1), (78, .iload_n 3, 1), (79, .iadd, 1), (80, .iconst 0, 1), (81, .iastore, 1), (82, .iinc 3 1, 3), (85, .goto (-58), 3), (88, .iload_n 2, 1), (89, .ireturn, 1)]]
def mm_r180 : mm_R := ((yX10_blocked, cX10_blocked, 4, (some .int), 1, false, [(6, 142), (1, 11), (6, 143)], (6, 144)),
   RX10, mm_t180, [(7, 0, 10, 0, 2, [(4, 232)]),
    (167, 0, 10, 2, 0, [(4, 234)]),
    (243, 1, 140, 10, 0, [(6, 60)]),
    (256, 1, 169, 10, 0, [(6, 98)])])
-- 181: "RainOrganModel" "frozen"
def mm_t181 : mm_T := [[(0, .aload_n 0, 1), (1, .iload_n 1, 1), (2, .invokevirtual 243, 3), (5, .ifCond .ne 5, 3), (8, .iconst (-1), 1), (9, .ireturn, 1), (10, .iconst 0, 1), (11, .istore_n 2, 1), (12, .iconst 0, 1), (13, .istore_n 3, 1), (14, .iload_n 3, 1), (15, .aload_n 0, 1), (16, .getfield 170, 3), (19, .if_icmp .ge 65, 3), (22, .aload_n 0, 1), (23, .getfield 7, 3), (26, .bipush 10, 2), (28, .iload_n 3, 1), (29, .iadd, 1), (30, .iaload, 1), (31, .istore 4, 2)],
   [(33, .iload 4, 2), (35, .iconst 5, 1), (36, .if_icmp .eq 42, 3), (39, .aload_n 0, 1), (40, .getfield 7, 3), (43, .bipush 10, 2), (45, .iload_n 3, 1), (46, .iadd, 1), (47, .iconst 5, 1), (48, .iastore, 1), (49, .iload_n 2, 1), (50, .aload_n 0, 1), (51, .iload_n 1, 1), (52, .invokevirtual 256, 3), (55, .ifCond .ne 9, 3), (58, .iconst 1, 1), (59, .iload_n 3, 1), (60, .ishl, 1), (61, .goto 4, 3)],
   [(64, .iconst 0, 1), (65, .ior, 1), (66, .istore_n 2, 1), (67, .aload_n 0, 1), (68, .getfield 7, 3), (71, .bipush 10, 2), (73, .iload_n 3, 1), (74, .iadd, 1), (75, .iload 4, 2), (77, .iastore, 1), (78, .iinc 3 1, 3), (81, .goto (-67), 3), (84, .iload_n 2, 1), (85, .ireturn, 1)]]
def mm_r181 : mm_R := ((yX10_frozen, cX10_frozen, 5, (some .int), 1, false, [(6, 146), (1, 11), (6, 147)], (6, 148)),
   RX10, mm_t181, [(7, 0, 10, 0, 2, [(4, 232)]),
    (170, 0, 10, 3, 0, [(4, 235)]),
    (243, 1, 140, 10, 0, [(6, 60)]),
    (256, 1, 169, 10, 0, [(6, 98)])])
-- 182: "RainOrganModel" "lasts"
def mm_t182 : mm_T := [[(0, .aload_n 0, 1), (1, .iload_n 1, 1), (2, .invokevirtual 243, 3), (5, .ifCond .eq 11, 3), (8, .aload_n 0, 1), (9, .iload_n 2, 1), (10, .invokevirtual 195, 3), (13, .ifCond .ne 5, 3), (16, .iconst (-1), 1), (17, .ireturn, 1), (18, .aload_n 0, 1), (19, .sipush 420, 3), (22, .invokevirtual 228, 3), (25, .iconst 1, 1), (26, .istore_n 3, 1), (27, .iload_n 3, 1), (28, .bipush 99, 2), (30, .if_icmp .gt 30, 3)],
   [(33, .aload_n 0, 1), (34, .iload_n 1, 1), (35, .invokevirtual 240, 3), (38, .aload_n 0, 1), (39, .getfield 7, 3), (42, .sipush 538, 3), (45, .iload_n 2, 1), (46, .iadd, 1), (47, .iaload, 1), (48, .iconst 1, 1), (49, .if_icmp .ne 5, 3), (52, .iload_n 3, 1), (53, .ireturn, 1), (54, .iinc 3 1, 3), (57, .goto (-30), 3), (60, .bipush (-4), 2), (62, .ireturn, 1)]]
def mm_r182 : mm_R := ((yX10_lasts, cX10_lasts, 4, (some .int), 2, false, [(6, 150), (1, 11), (6, 151)], (6, 152)),
   RX10, mm_t182, [(7, 0, 10, 0, 2, [(4, 232)]),
    (195, 1, 139, 10, 0, [(5, 222)]),
    (228, 1, 154, 10, 0, [(6, 40)]),
    (240, 1, 161, 10, 0, [(6, 76)]),
    (243, 1, 140, 10, 0, [(6, 60)])])
-- 183: "RainOrganModel" "draws"
def mm_t183 : mm_T := [[(0, .aload_n 0, 1), (1, .iload_n 1, 1), (2, .invokevirtual 243, 3), (5, .ifCond .eq 27, 3), (8, .iload_n 2, 1), (9, .i2l, 1), (10, .lconst 1, 1), (11, .ldc2_w 277, 3), (14, .invokestatic 81, 3), (17, .ifCond .eq 15, 3), (20, .iload_n 3, 1), (21, .i2l, 1), (22, .lconst 1, 1), (23, .ldc2_w 279, 3), (26, .invokestatic 81, 3), (29, .ifCond .ne 5, 3)],
   [(32, .iconst (-1), 1), (33, .ireturn, 1), (34, .iload 4, 2), (36, .istore 5, 2), (38, .iconst 0, 1), (39, .istore 6, 2), (41, .aload_n 0, 1), (42, .getfield 7, 3), (45, .bipush 34, 2), (47, .bipush 13, 2), (49, .iload_n 1, 1), (50, .imul, 1), (51, .iadd, 1), (52, .iload_n 2, 1), (53, .iastore, 1), (54, .iconst 0, 1), (55, .istore 7, 2), (57, .iload 7, 2), (59, .iload_n 2, 1), (60, .if_icmp .ge 60, 3), (63, .iload 5, 2)],
   [(65, .ldc_w 281, 3), (68, .imul, 1), (69, .sipush 12345, 3), (72, .iadd, 1), (73, .istore 5, 2), (75, .iload 5, 2), (77, .bipush 16, 2), (79, .ishr, 1), (80, .sipush 32767, 3), (83, .iand, 1), (84, .iload_n 3, 1), (85, .irem, 1), (86, .istore 8, 2), (88, .aload_n 0, 1), (89, .getfield 7, 3), (92, .bipush 34, 2), (94, .bipush 13, 2)],
   [(96, .iload_n 1, 1), (97, .imul, 1), (98, .iadd, 1), (99, .iconst 1, 1), (100, .iadd, 1), (101, .iload 7, 2), (103, .iadd, 1), (104, .iload 8, 2), (106, .iastore, 1), (107, .iload 6, 2), (109, .iload 8, 2), (111, .iadd, 1), (112, .istore 6, 2), (114, .iinc 7 1, 3), (117, .goto (-60), 3), (120, .iload 6, 2), (122, .ireturn, 1)]]
def mm_r183 : mm_R := ((yX10_draws, cX10_draws, 9, (some .int), 4, false, [(6, 154), (1, 11), (6, 155)], (6, 156)),
   RX10, mm_t183, [(7, 0, 10, 0, 2, [(4, 232)]),
    (81, 2, 120, 10, 0, [(5, 140)]),
    (243, 1, 140, 10, 0, [(6, 60)]),
    (277, 11, 0, 0, 12, [(6, 157)]),
    (279, 11, 0, 0, 10, [(6, 158)]),
    (281, 10, 0, 0, 1103515245, [(6, 159)])])
-- 184: "RainOrganModel" "copies"
def mm_t184 : mm_T := [[(0, .iconst 0, 1), (1, .istore_n 3, 1), (2, .iload_n 3, 1), (3, .sipush 140, 3), (6, .if_icmp .ge 25, 3), (9, .aload_n 0, 1), (10, .getfield 7, 3), (13, .iload_n 2, 1), (14, .iload_n 3, 1), (15, .iadd, 1), (16, .aload_n 0, 1), (17, .getfield 7, 3), (20, .iload_n 1, 1), (21, .iload_n 3, 1), (22, .iadd, 1), (23, .iaload, 1), (24, .iastore, 1), (25, .iinc 3 1, 3), (28, .goto (-26), 3), (31, .return_, 1)]]
def mm_r184 : mm_R := ((yX10_copies, cX10_copies, 4, none, 2, false, [(6, 166), (1, 11), (0, 73)], (6, 167)),
   RX10, mm_t184, [(7, 0, 10, 0, 2, [(4, 232)])])
-- 185: "RainOrganModel" "keep"
def mm_t185 : mm_T := [[(0, .iload_n 1, 1), (1, .i2l, 1), (2, .lconst 0, 1), (3, .lconst 1, 1), (4, .invokestatic 81, 3), (7, .ifCond .ne 5, 3), (10, .iconst (-1), 1), (11, .ireturn, 1), (12, .aload_n 0, 1), (13, .iconst 0, 1), (14, .sipush 140, 3), (17, .iload_n 1, 1), (18, .iconst 1, 1), (19, .iadd, 1), (20, .imul, 1), (21, .invokevirtual 282, 3), (24, .aload_n 0, 1), (25, .getfield 64, 3), (28, .iload_n 1, 1), (29, .baload, 1), (30, .ifCond .eq 7, 3)],
   [(33, .iconst 1, 1), (34, .goto 4, 3), (37, .iconst 0, 1), (38, .istore_n 2, 1), (39, .aload_n 0, 1), (40, .getfield 64, 3), (43, .iload_n 1, 1), (44, .iconst 1, 1), (45, .bastore, 1), (46, .iload_n 2, 1), (47, .ireturn, 1)]]
def mm_r185 : mm_R := ((yX10_keep, cX10_keep, 3, (some .int), 1, false, [(6, 161), (1, 11), (6, 162)], (6, 163)),
   RX10, mm_t185, [(64, 0, 10, 41, 2, [(5, 33)]),
    (81, 2, 120, 10, 0, [(5, 140)]),
    (282, 1, 184, 10, 0, [(6, 164)])])
-- 186: "RainOrganModel" "back"
def mm_t186 : mm_T := [[(0, .iload_n 1, 1), (1, .i2l, 1), (2, .lconst 0, 1), (3, .lconst 1, 1), (4, .invokestatic 81, 3), (7, .ifCond .ne 5, 3), (10, .iconst (-1), 1), (11, .ireturn, 1), (12, .aload_n 0, 1), (13, .getfield 64, 3), (16, .iload_n 1, 1), (17, .baload, 1), (18, .ifCond .ne 6, 3), (21, .bipush (-2), 2), (23, .ireturn, 1), (24, .aload_n 0, 1), (25, .sipush 140, 3), (28, .iload_n 1, 1), (29, .iconst 1, 1), (30, .iadd, 1), (31, .imul, 1)],
   [(32, .iconst 0, 1), (33, .invokevirtual 282, 3), (36, .aload_n 0, 1), (37, .getfield 7, 3), (40, .sipush 134, 3), (43, .iaload, 1), (44, .ireturn, 1)]]
def mm_r186 : mm_R := ((yX10_back, cX10_back, 2, (some .int), 1, false, [(6, 169), (1, 11), (6, 170)], (6, 171)),
   RX10, mm_t186, [(7, 0, 10, 0, 2, [(4, 232)]),
    (64, 0, 10, 41, 2, [(5, 33)]),
    (81, 2, 120, 10, 0, [(5, 140)]),
    (282, 1, 184, 10, 0, [(6, 164)])])
-- 187: "RainOrganModel" "sheet"
def mm_t187 : mm_T := [[(0, .iload_n 1, 1), (1, .i2l, 1), (2, .lconst 0, 1), (3, .ldc2_w 285, 3), (6, .invokestatic 81, 3), (9, .ifCond .eq 21, 3), (12, .iload_n 2, 1), (13, .i2l, 1), (14, .lconst 0, 1), (15, .ldc2_w 198, 3), (18, .invokestatic 81, 3), (21, .ifCond .eq 9, 3), (24, .iload_n 3, 1), (25, .bipush 40, 2), (27, .if_icmp .le 5, 3), (30, .iconst (-1), 1), (31, .ireturn, 1)],
   [(32, .iload_n 3, 1), (33, .ifCond .ge 6, 3), (36, .bipush (-14), 2), (38, .ireturn, 1), (39, .aload_n 0, 1), (40, .getfield 68, 3), (43, .iload_n 1, 1), (44, .iload_n 2, 1), (45, .iastore, 1), (46, .aload_n 0, 1), (47, .getfield 71, 3), (50, .iload_n 1, 1), (51, .iload_n 3, 1), (52, .iastore, 1), (53, .iconst 0, 1), (54, .istore 4, 2), (56, .iload 4, 2), (58, .bipush 40, 2), (60, .if_icmp .ge 22, 3), (63, .aload_n 0, 1)],
   [(64, .getfield 74, 3), (67, .bipush 40, 2), (69, .iload_n 1, 1), (70, .imul, 1), (71, .iload 4, 2), (73, .iadd, 1), (74, .iconst 0, 1), (75, .iastore, 1), (76, .iinc 4 1, 3), (79, .goto (-23), 3), (82, .iconst 1, 1), (83, .ireturn, 1)]]
def mm_r187 : mm_R := ((yX10_sheet, cX10_sheet, 5, (some .int), 3, false, [(6, 173), (1, 11), (6, 174)], (6, 175)),
   RX10, mm_t187, [(68, 0, 10, 42, 2, [(5, 34)]),
    (71, 0, 10, 43, 2, [(5, 35)]),
    (74, 0, 10, 44, 2, [(5, 36)]),
    (81, 2, 120, 10, 0, [(5, 140)]),
    (198, 11, 0, 0, 2, [(5, 230)]),
    (285, 11, 0, 0, 3, [(6, 176)])])
-- 188: "RainOrganModel" "lay"
def mm_t188 : mm_T := [[(0, .iload_n 1, 1), (1, .i2l, 1), (2, .lconst 0, 1), (3, .ldc2_w 285, 3), (6, .invokestatic 81, 3), (9, .ifCond .ne 5, 3), (12, .iconst (-1), 1), (13, .ireturn, 1), (14, .aload_n 0, 1), (15, .getfield 68, 3), (18, .iload_n 1, 1), (19, .iaload, 1), (20, .bipush (-4), 2), (22, .if_icmp .ne 6, 3), (25, .bipush (-11), 2), (27, .ireturn, 1), (28, .iload_n 2, 1), (29, .i2l, 1), (30, .lconst 0, 1), (31, .aload_n 0, 1)],
   [(32, .getfield 71, 3), (35, .iload_n 1, 1), (36, .iaload, 1), (37, .iconst 1, 1), (38, .isub, 1), (39, .i2l, 1), (40, .invokestatic 81, 3), (43, .ifCond .ne 6, 3), (46, .bipush (-12), 2), (48, .ireturn, 1), (49, .aload_n 0, 1), (50, .getfield 74, 3), (53, .bipush 40, 2), (55, .iload_n 1, 1), (56, .imul, 1), (57, .iload_n 2, 1), (58, .iadd, 1), (59, .aload_n 0, 1), (60, .getfield 68, 3), (63, .iload_n 1, 1)],
   [(64, .iaload, 1), (65, .ifCond .ne 13, 3), (68, .iload_n 3, 1), (69, .bipush 24, 2), (71, .ishl, 1), (72, .bipush 24, 2), (74, .ishr, 1), (75, .goto 24, 3), (78, .aload_n 0, 1), (79, .getfield 68, 3), (82, .iload_n 1, 1), (83, .iaload, 1), (84, .iconst 1, 1), (85, .if_icmp .ne 13, 3), (88, .iload_n 3, 1), (89, .bipush 16, 2), (91, .ishl, 1), (92, .bipush 16, 2), (94, .ishr, 1), (95, .goto 4, 3)],
   [(98, .iload_n 3, 1), (99, .iastore, 1), (100, .iconst 1, 1), (101, .ireturn, 1)]]
def mm_r188 : mm_R := ((yX10_lay, cX10_lay, 4, (some .int), 3, false, [(6, 178), (1, 11), (6, 179)], (6, 180)),
   RX10, mm_t188, [(68, 0, 10, 42, 2, [(5, 34)]),
    (71, 0, 10, 43, 2, [(5, 35)]),
    (74, 0, 10, 44, 2, [(5, 36)]),
    (81, 2, 120, 10, 0, [(5, 140)]),
    (285, 11, 0, 0, 3, [(6, 176)])])
-- 189: "RainOrganModel" "read"
def mm_t189 : mm_T := [[(0, .iload_n 1, 1), (1, .i2l, 1), (2, .lconst 0, 1), (3, .ldc2_w 285, 3), (6, .invokestatic 81, 3), (9, .ifCond .eq 28, 3), (12, .iload_n 2, 1), (13, .i2l, 1), (14, .lconst 0, 1), (15, .ldc2_w 198, 3), (18, .invokestatic 81, 3), (21, .ifCond .eq 16, 3), (24, .iload 4, 2), (26, .i2l, 1), (27, .lconst 0, 1), (28, .ldc2_w 277, 3), (31, .invokestatic 81, 3)],
   [(34, .ifCond .ne 5, 3), (37, .iconst (-1), 1), (38, .ireturn, 1), (39, .iconst 0, 1), (40, .istore 5, 2), (42, .iconst 0, 1), (43, .istore 6, 2), (45, .iload 6, 2), (47, .iload 4, 2), (49, .if_icmp .ge 120, 3), (52, .iload 5, 2), (54, .ifCond .ne 115, 3), (57, .aload_n 0, 1), (58, .getfield 68, 3), (61, .iload_n 1, 1), (62, .iaload, 1), (63, .bipush (-4), 2)],
   [(65, .if_icmp .ne 7, 3), (68, .iconst 1, 1), (69, .goto 44, 3), (72, .aload_n 0, 1), (73, .getfield 68, 3), (76, .iload_n 1, 1), (77, .iaload, 1), (78, .iload_n 2, 1), (79, .if_icmp .eq 7, 3), (82, .iconst 3, 1), (83, .goto 30, 3), (86, .iload_n 3, 1), (87, .i2l, 1), (88, .iload 6, 2), (90, .i2l, 1), (91, .ladd, 1), (92, .lconst 0, 1), (93, .aload_n 0, 1), (94, .getfield 71, 3)],
   [(97, .iload_n 1, 1), (98, .iaload, 1), (99, .iconst 1, 1), (100, .isub, 1), (101, .i2l, 1), (102, .invokestatic 81, 3), (105, .ifCond .ne 7, 3), (108, .iconst 2, 1), (109, .goto 4, 3), (112, .iconst 0, 1), (113, .istore 5, 2), (115, .iload 5, 2), (117, .ifCond .ne 34, 3), (120, .aload_n 0, 1), (121, .getfield 74, 3), (124, .bipush 40, 2), (126, .iload_n 1, 1), (127, .imul, 1)],
   [(128, .iload_n 3, 1), (129, .iadd, 1), (130, .iload 6, 2), (132, .iadd, 1), (133, .iaload, 1), (134, .i2l, 1), (135, .lconst 0, 1), (136, .ldc2_w 223, 3), (139, .invokestatic 81, 3), (142, .ifCond .ne 9, 3), (145, .bipush (-20), 2), (147, .iload 6, 2), (149, .isub, 1), (150, .ireturn, 1), (151, .iload 6, 2), (153, .iload 5, 2), (155, .ifCond .ne 7, 3), (158, .iconst 1, 1), (159, .goto 4, 3)],
   [(162, .iconst 0, 1), (163, .iadd, 1), (164, .istore 6, 2), (166, .goto (-121), 3), (169, .iconst 0, 1), (170, .istore 7, 2), (172, .iload 7, 2), (174, .iload 6, 2), (176, .if_icmp .ge 29, 3), (179, .aload_n 0, 1), (180, .iconst 0, 1), (181, .aload_n 0, 1), (182, .getfield 74, 3), (185, .bipush 40, 2), (187, .iload_n 1, 1), (188, .imul, 1), (189, .iload_n 3, 1), (190, .iadd, 1), (191, .iload 7, 2)],
   [(193, .iadd, 1), (194, .iaload, 1), (195, .invokevirtual 225, 3), (198, .pop, 1), (199, .iinc 7 1, 3), (202, .goto (-30), 3), (205, .aload_n 0, 1), (206, .iload 5, 2), (208, .putfield 287, 3), (211, .iload 6, 2), (213, .ireturn, 1)]]
def mm_r189 : mm_R := ((yX10_read, cX10_read, 8, (some .int), 4, false, [(6, 182), (1, 11), (6, 183)], (6, 184)),
   RX10, mm_t189, [(68, 0, 10, 42, 2, [(5, 34)]),
    (71, 0, 10, 43, 2, [(5, 35)]),
    (74, 0, 10, 44, 2, [(5, 36)]),
    (81, 2, 120, 10, 0, [(5, 140)]),
    (198, 11, 0, 0, 2, [(5, 230)]),
    (223, 11, 0, 0, 9, [(6, 19)]),
    (225, 1, 153, 10, 0, [(6, 20)]),
    (277, 11, 0, 0, 12, [(6, 157)]),
    (285, 11, 0, 0, 3, [(6, 176)]),
    (287, 0, 10, 45, 0, [(5, 37)])])
-- 190: "RainOrganModel" "torn"
def mm_t190 : mm_T := [[(0, .aload_n 0, 1), (1, .getfield 287, 3), (4, .ireturn, 1)]]
def mm_r190 : mm_R := ((yX10_torn, cX10_torn, 1, (some .int), 0, false, [(6, 186), (1, 11), (6, 187)], (6, 188)),
   RX10, mm_t190, [(287, 0, 10, 45, 0, [(5, 37)])])
-- 191: "RainOrganModel" "count"
def mm_t191 : mm_T := [[(0, .iconst 0, 1), (1, .istore_n 2, 1), (2, .iconst 0, 1), (3, .istore_n 3, 1), (4, .iload_n 3, 1), (5, .iconst 5, 1), (6, .if_icmp .ge 20, 3), (9, .iload_n 2, 1), (10, .aload_n 0, 1), (11, .getfield 7, 3), (14, .iconst 5, 1), (15, .iload_n 3, 1), (16, .iadd, 1), (17, .iaload, 1), (18, .iadd, 1), (19, .istore_n 2, 1), (20, .iinc 3 1, 3), (23, .goto (-19), 3), (26, .iload_n 1, 1), (27, .tableswitch 101 0 4 #[33, 35, 43, 73, 78], 33)],
   [(60, .iload_n 2, 1), (61, .ireturn, 1), (62, .aload_n 0, 1), (63, .iconst 0, 1)],
   [(64, .bipush 118, 2), (66, .invokevirtual 231, 3), (69, .ireturn, 1), (70, .aload_n 0, 1), (71, .getfield 64, 3), (74, .iconst 0, 1), (75, .baload, 1), (76, .ifCond .eq 7, 3), (79, .iconst 1, 1), (80, .goto 4, 3), (83, .iconst 0, 1), (84, .aload_n 0, 1), (85, .getfield 64, 3), (88, .iconst 1, 1), (89, .baload, 1), (90, .ifCond .eq 7, 3), (93, .iconst 1, 1), (94, .goto 4, 3)],
   [(97, .iconst 0, 1), (98, .iadd, 1), (99, .ireturn, 1), (100, .aload_n 0, 1), (101, .getfield 77, 3), (104, .ireturn, 1), (105, .aload_n 0, 1), (106, .getfield 68, 3), (109, .iconst 0, 1), (110, .iaload, 1), (111, .bipush (-4), 2), (113, .if_icmp .ne 8, 3), (116, .bipush (-4), 2), (118, .goto 9, 3), (121, .aload_n 0, 1), (122, .getfield 71, 3), (125, .iconst 0, 1), (126, .iaload, 1), (127, .ireturn, 1)],
   [(128, .iconst (-1), 1), (129, .ireturn, 1)]]
def mm_r191 : mm_R := ((yX10_count, cX10_count, 4, (some .int), 1, false, [(6, 190), (1, 11), (6, 191)], (6, 192)),
   RX10, mm_t191, [(7, 0, 10, 0, 2, [(4, 232)]),
    (64, 0, 10, 41, 2, [(5, 33)]),
    (68, 0, 10, 42, 2, [(5, 34)]),
    (71, 0, 10, 43, 2, [(5, 35)]),
    (77, 0, 10, 22, 0, [(5, 14)]),
    (231, 1, 155, 10, 0, [(6, 48)])])
-- 192: "java/lang/Integer" "bitCount"
def mm_t192 : mm_T := [[(0, .iload_n 0, 1), (1, .iload_n 0, 1), (2, .iconst 1, 1), (3, .iushr, 1), (4, .ldc_w 265, 3), (7, .iand, 1), (8, .isub, 1), (9, .istore_n 0, 1), (10, .iload_n 0, 1), (11, .ldc_w 266, 3), (14, .iand, 1), (15, .iload_n 0, 1), (16, .iconst 2, 1), (17, .iushr, 1), (18, .ldc_w 266, 3), (21, .iand, 1), (22, .iadd, 1), (23, .istore_n 0, 1), (24, .iload_n 0, 1), (25, .iload_n 0, 1), (26, .iconst 4, 1), (27, .iushr, 1), (28, .iadd, 1), (29, .ldc_w 267, 3)],
   [(32, .iand, 1), (33, .istore_n 0, 1), (34, .iload_n 0, 1), (35, .iload_n 0, 1), (36, .bipush 8, 2), (38, .iushr, 1), (39, .iadd, 1), (40, .istore_n 0, 1), (41, .iload_n 0, 1), (42, .iload_n 0, 1), (43, .bipush 16, 2), (45, .iushr, 1), (46, .iadd, 1), (47, .istore_n 0, 1), (48, .iload_n 0, 1), (49, .bipush 63, 2), (51, .iand, 1), (52, .ireturn, 1)]]
def mm_r192 : mm_R := ((yJ6_bitCount_0f7a4, cJ6_bitCount_0f7a4, 1, (some .int), 1, true, [(4, 83), (1, 18)], (4, 84)),
   RJ6, mm_t192, [(265, 10, 0, 0, 1431655765, [(4, 85)]),
    (266, 10, 0, 0, 858993459, [(4, 86)]),
    (267, 10, 0, 0, 252645135, [(4, 87)])])
-- 193: "java/lang/String" "length"
def mm_t193 : mm_T := [[(0, .aload_n 0, 1), (1, .getfield 9, 3), (4, .arraylength, 1), (5, .aload_n 0, 1), (6, .invokevirtual 335, 3), (9, .ishr, 1), (10, .ireturn, 1)]]
def mm_r193 : mm_R := ((yJ0_length_8abf5, cJ0_length_8abf5, 1, (some .int), 0, false, [(3, 5), (1, 13), (3, 6)], (3, 7)),
   RJ0, mm_t193, [(9, 14, 0, 0, 0, [(6, 194)]),
    (335, 1, 195, 1000, 0, [(3, 8)])])
-- 194: "java/lang/String" "charAt"
def mm_t194 : mm_T := [[(0, .aload_n 0, 1), (1, .invokevirtual 492, 3), (4, .ifCond .eq 12, 3), (7, .aload_n 0, 1), (8, .getfield 9, 3), (11, .iload_n 1, 1), (12, .invokestatic 495, 3), (15, .ireturn, 1), (16, .aload_n 0, 1), (17, .getfield 9, 3), (20, .iload_n 1, 1), (21, .invokestatic 498, 3), (24, .ireturn, 1)]]
def mm_r194 : mm_R := ((yJ0_charAt_5068e, cJ0_charAt_5068e, 2, (some .char), 1, false, [(3, 15), (1, 13), (3, 16)], (3, 17)),
   RJ0, mm_t194, [(9, 14, 0, 0, 0, [(6, 194)]),
    (492, 1, 196, 1000, 0, [(3, 18)]),
    (495, 2, 198, 0, 0, [(3, 22)]),
    (498, 99, 0, 0, 0, [])])
-- 195: "java/lang/String" "coder"
def mm_t195 : mm_T := [[(0, .getstatic 38, 3), (3, .ifCond .eq 10, 3), (6, .aload_n 0, 1), (7, .getfield 15, 3), (10, .goto 4, 3), (13, .iconst 1, 1), (14, .ireturn, 1)]]
def mm_r195 : mm_R := ((yJ0_coder_7d493, cJ0_coder_7d493, 1, (some .byte), 0, false, [(3, 9), (1, 13), (3, 10)], (3, 11)),
   RJ0, mm_t195, [(15, 15, 0, 0, 0, [(6, 195)]),
    (38, 16, 0, 0, 0, [(3, 12)])])
-- 196: "java/lang/String" "isLatin1"
def mm_t196 : mm_T := [[(0, .getstatic 38, 3), (3, .ifCond .eq 14, 3), (6, .aload_n 0, 1), (7, .getfield 15, 3), (10, .ifCond .ne 7, 3), (13, .iconst 1, 1), (14, .goto 4, 3), (17, .iconst 0, 1), (18, .ireturn, 1)]]
def mm_r196 : mm_R := ((yJ0_isLatin1_aae02, cJ0_isLatin1_aae02, 1, (some .boolean), 0, false, [(3, 19), (1, 13), (3, 20)], (3, 21)),
   RJ0, mm_t196, [(15, 15, 0, 0, 0, [(6, 195)]),
    (38, 16, 0, 0, 0, [(3, 12)])])
-- 197: "java/lang/String" "checkIndex"
def mm_t197 : mm_T := [[(0, .iload_n 0, 1), (1, .iload_n 1, 1), (2, .getstatic 1053, 3), (5, .invokestatic 1059, 3), (8, .pop, 1), (9, .return_, 1)]]
def mm_r197 : mm_R := ((yJ0_checkIndex_df160, cJ0_checkIndex_df160, 2, none, 2, true, [(3, 26), (1, 13)], (3, 27)),
   RJ0, mm_t197, [(1053, 17, 0, 0, 0, [(3, 28)]),
    (1059, 2, 201, 0, 0, [(3, 30)])])
-- 198: "java/lang/StringLatin1" "charAt"
def mm_t198 : mm_T := [[(0, .iload_n 1, 1), (1, .aload_n 0, 1), (2, .arraylength, 1), (3, .invokestatic 9, 3), (6, .aload_n 0, 1), (7, .iload_n 1, 1), (8, .baload, 1), (9, .sipush 255, 3), (12, .iand, 1), (13, .i2c, 1), (14, .ireturn, 1)]]
def mm_r198 : mm_R := ((yJ1_charAt_3b067, cJ1_charAt_3b067, 2, (some .char), 2, true, [(3, 23), (1, 14)], (3, 24)),
   RJ1, mm_t198, [(9, 2, 197, 1000, 0, [(3, 25)])])
-- 199: "java/util/Arrays" "fill"
def mm_t199 : mm_T := [[(0, .iconst 0, 1), (1, .istore_n 3, 1), (2, .aload_n 0, 1), (3, .arraylength, 1), (4, .istore 4, 2), (6, .iload_n 3, 1), (7, .iload 4, 2), (9, .if_icmp .ge 13, 3), (12, .aload_n 0, 1), (13, .iload_n 3, 1), (14, .lload_n 1, 1), (15, .lastore, 1), (16, .iinc 3 1, 3), (19, .goto (-13), 3), (22, .return_, 1)]]
def mm_r199 : mm_R := ((yJ7_fill_d0a16, cJ7_fill_d0a16, 5, none, 2, true, [(3, 139), (1, 12)], (3, 140)),
   RJ7, mm_t199, [])
-- 200: "java/util/Arrays" "fill"
def mm_t200 : mm_T := [[(0, .iconst 0, 1), (1, .istore_n 2, 1), (2, .aload_n 0, 1), (3, .arraylength, 1), (4, .istore_n 3, 1), (5, .iload_n 2, 1), (6, .iload_n 3, 1), (7, .if_icmp .ge 13, 3), (10, .aload_n 0, 1), (11, .iload_n 2, 1), (12, .iload_n 1, 1), (13, .iastore, 1), (14, .iinc 2 1, 3), (17, .goto (-12), 3), (20, .return_, 1)]]
def mm_r200 : mm_R := ((yJ7_fill_53178, cJ7_fill_53178, 4, none, 2, true, [(2, 213), (1, 12)], (2, 214)),
   RJ7, mm_t200, [])
-- 201: "jdk/internal/util/Preconditions" "checkIndex"
def mm_t201 : mm_T := [[(0, .iload_n 0, 1), (1, .ifCond .lt 8, 3), (4, .iload_n 0, 1), (5, .iload_n 1, 1), (6, .if_icmp .lt 10, 3), (9, .aload_n 2, 1), (10, .iload_n 0, 1), (11, .iload_n 1, 1), (12, .invokestatic 95, 3), (15, .athrow, 1), (16, .iload_n 0, 1), (17, .ireturn, 1)]]
def mm_r201 : mm_R := ((yJ3_checkIndex_8e157, cJ3_checkIndex_8e157, 3, (some .int), 3, true, [(3, 31), (1, 15)], (3, 32)),
   RJ3, mm_t201, [(95, 99, 0, 0, 0, [])])
-- 202: "RainOrganLaw" "law"
def mm_tL_0 : List (Nat × Instr × Nat) := [(0, .new 7, 3), (3, .dup, 1), (4, .invokespecial 9, 3), (7, .astore_n 1, 1), (8, .new 10, 3), (11, .dup, 1), (12, .invokespecial 12, 3), (15, .astore_n 2, 1), (16, .iconst 0, 1), (17, .istore_n 3, 1), (18, .iload_n 3, 1), (19, .aload_n 0, 1), (20, .arraylength, 1), (21, .iconst 5, 1), (22, .isub, 1), (23, .if_icmp .gt 1293, 3), (26, .aload_n 0, 1), (27, .iload_n 3, 1), (28, .iaload, 1), (29, .bipush 63, 2), (31, .iand, 1)]
def mm_tL_1 : List (Nat × Instr × Nat) := [(32, .tableswitch 1278 0 37 #[168, 221, 244, 257, 270, 293, 326, 359, 392, 441, 474, 497, 520, 533, 556, 579, 612, 645, 678, 701, 734, 757, 790, 823, 846, 879, 902, 925, 948, 971, 1004, 1057, 1080, 1103, 1146, 1189, 1242, 1255], 168)]
def mm_tL_2 : List (Nat × Instr × Nat) := []
def mm_tL_3 : List (Nat × Instr × Nat) := []
def mm_tL_4 : List (Nat × Instr × Nat) := []
def mm_tL_5 : List (Nat × Instr × Nat) := []
def mm_tL_6 : List (Nat × Instr × Nat) := [(200, .aload_n 1, 1), (201, .aload_n 0, 1), (202, .iload_n 3, 1), (203, .iconst 1, 1), (204, .iadd, 1), (205, .iaload, 1), (206, .i2l, 1), (207, .bipush 32, 2), (209, .lshl, 1), (210, .aload_n 0, 1), (211, .iload_n 3, 1), (212, .iconst 2, 1), (213, .iadd, 1), (214, .iaload, 1), (215, .i2l, 1), (216, .ldc2_w 13, 3), (219, .land, 1), (220, .lor, 1), (221, .invokevirtual 15, 3)]
def mm_tL_7 : List (Nat × Instr × Nat) := [(224, .pop, 1), (225, .aload_n 2, 1), (226, .aload_n 0, 1), (227, .iload_n 3, 1), (228, .iconst 1, 1), (229, .iadd, 1), (230, .iaload, 1), (231, .i2l, 1), (232, .bipush 32, 2), (234, .lshl, 1), (235, .aload_n 0, 1), (236, .iload_n 3, 1), (237, .iconst 2, 1), (238, .iadd, 1), (239, .iaload, 1), (240, .i2l, 1), (241, .ldc2_w 13, 3), (244, .land, 1), (245, .lor, 1), (246, .invokevirtual 19, 3), (249, .pop, 1), (250, .goto 1060, 3), (253, .aload_n 1, 1), (254, .aload_n 0, 1), (255, .iload_n 3, 1)]
def mm_tL_8 : List (Nat × Instr × Nat) := [(256, .iconst 1, 1), (257, .iadd, 1), (258, .iaload, 1), (259, .invokevirtual 20, 3), (262, .pop, 1), (263, .aload_n 2, 1), (264, .aload_n 0, 1), (265, .iload_n 3, 1), (266, .iconst 1, 1), (267, .iadd, 1), (268, .iaload, 1), (269, .invokevirtual 24, 3), (272, .pop, 1), (273, .goto 1037, 3), (276, .aload_n 1, 1), (277, .invokevirtual 25, 3), (280, .pop, 1), (281, .aload_n 2, 1), (282, .invokevirtual 29, 3), (285, .pop, 1), (286, .goto 1024, 3)]
def mm_tL_9 : List (Nat × Instr × Nat) := [(289, .aload_n 1, 1), (290, .invokevirtual 30, 3), (293, .pop, 1), (294, .aload_n 2, 1), (295, .invokevirtual 33, 3), (298, .pop, 1), (299, .goto 1011, 3), (302, .aload_n 1, 1), (303, .aload_n 0, 1), (304, .iload_n 3, 1), (305, .iconst 1, 1), (306, .iadd, 1), (307, .iaload, 1), (308, .invokevirtual 34, 3), (311, .pop, 1), (312, .aload_n 2, 1), (313, .aload_n 0, 1), (314, .iload_n 3, 1), (315, .iconst 1, 1), (316, .iadd, 1), (317, .iaload, 1), (318, .invokevirtual 37, 3)]
def mm_tL_10 : List (Nat × Instr × Nat) := [(321, .pop, 1), (322, .goto 988, 3), (325, .aload_n 1, 1), (326, .aload_n 0, 1), (327, .iload_n 3, 1), (328, .iconst 1, 1), (329, .iadd, 1), (330, .iaload, 1), (331, .aload_n 0, 1), (332, .iload_n 3, 1), (333, .iconst 2, 1), (334, .iadd, 1), (335, .iaload, 1), (336, .invokevirtual 38, 3), (339, .pop, 1), (340, .aload_n 2, 1), (341, .aload_n 0, 1), (342, .iload_n 3, 1), (343, .iconst 1, 1), (344, .iadd, 1), (345, .iaload, 1), (346, .aload_n 0, 1), (347, .iload_n 3, 1), (348, .iconst 2, 1), (349, .iadd, 1), (350, .iaload, 1), (351, .invokevirtual 42, 3)]
def mm_tL_11 : List (Nat × Instr × Nat) := [(354, .pop, 1), (355, .goto 955, 3), (358, .aload_n 1, 1), (359, .aload_n 0, 1), (360, .iload_n 3, 1), (361, .iconst 1, 1), (362, .iadd, 1), (363, .iaload, 1), (364, .aload_n 0, 1), (365, .iload_n 3, 1), (366, .iconst 2, 1), (367, .iadd, 1), (368, .iaload, 1), (369, .invokevirtual 43, 3), (372, .pop, 1), (373, .aload_n 2, 1), (374, .aload_n 0, 1), (375, .iload_n 3, 1), (376, .iconst 1, 1), (377, .iadd, 1), (378, .iaload, 1), (379, .aload_n 0, 1), (380, .iload_n 3, 1), (381, .iconst 2, 1), (382, .iadd, 1), (383, .iaload, 1)]
def mm_tL_12 : List (Nat × Instr × Nat) := [(384, .invokevirtual 46, 3), (387, .pop, 1), (388, .goto 922, 3), (391, .aload_n 1, 1), (392, .aload_n 0, 1), (393, .iload_n 3, 1), (394, .iconst 1, 1), (395, .iadd, 1), (396, .iaload, 1), (397, .aload_n 0, 1), (398, .iload_n 3, 1), (399, .iconst 2, 1), (400, .iadd, 1), (401, .iaload, 1), (402, .invokevirtual 47, 3), (405, .pop, 1), (406, .aload_n 2, 1), (407, .aload_n 0, 1), (408, .iload_n 3, 1), (409, .iconst 1, 1), (410, .iadd, 1), (411, .iaload, 1), (412, .aload_n 0, 1), (413, .iload_n 3, 1), (414, .iconst 2, 1), (415, .iadd, 1)]
def mm_tL_13 : List (Nat × Instr × Nat) := [(416, .iaload, 1), (417, .invokevirtual 50, 3), (420, .pop, 1), (421, .goto 889, 3), (424, .aload_n 1, 1), (425, .aload_n 0, 1), (426, .iload_n 3, 1), (427, .iconst 1, 1), (428, .iadd, 1), (429, .iaload, 1), (430, .aload_n 0, 1), (431, .iload_n 3, 1), (432, .iconst 2, 1), (433, .iadd, 1), (434, .iaload, 1), (435, .ifCond .eq 7, 3), (438, .iconst 1, 1), (439, .goto 4, 3), (442, .iconst 0, 1), (443, .invokevirtual 51, 3), (446, .pop, 1), (447, .aload_n 2, 1)]
def mm_tL_14 : List (Nat × Instr × Nat) := [(448, .aload_n 0, 1), (449, .iload_n 3, 1), (450, .iconst 1, 1), (451, .iadd, 1), (452, .iaload, 1), (453, .aload_n 0, 1), (454, .iload_n 3, 1), (455, .iconst 2, 1), (456, .iadd, 1), (457, .iaload, 1), (458, .ifCond .eq 7, 3), (461, .iconst 1, 1), (462, .goto 4, 3), (465, .iconst 0, 1), (466, .invokevirtual 55, 3), (469, .pop, 1), (470, .goto 840, 3), (473, .aload_n 1, 1), (474, .aload_n 0, 1), (475, .iload_n 3, 1), (476, .iconst 1, 1), (477, .iadd, 1), (478, .iaload, 1), (479, .aload_n 0, 1)]
def mm_tL_15 : List (Nat × Instr × Nat) := [(480, .iload_n 3, 1), (481, .iconst 2, 1), (482, .iadd, 1), (483, .iaload, 1), (484, .invokevirtual 56, 3), (487, .pop, 1), (488, .aload_n 2, 1), (489, .aload_n 0, 1), (490, .iload_n 3, 1), (491, .iconst 1, 1), (492, .iadd, 1), (493, .iaload, 1), (494, .aload_n 0, 1), (495, .iload_n 3, 1), (496, .iconst 2, 1), (497, .iadd, 1), (498, .iaload, 1), (499, .invokevirtual 59, 3), (502, .pop, 1), (503, .goto 807, 3), (506, .aload_n 1, 1), (507, .aload_n 0, 1), (508, .iload_n 3, 1), (509, .iconst 1, 1), (510, .iadd, 1), (511, .iaload, 1)]
def mm_tL_16 : List (Nat × Instr × Nat) := [(512, .invokevirtual 60, 3), (515, .pop, 1), (516, .aload_n 2, 1), (517, .aload_n 0, 1), (518, .iload_n 3, 1), (519, .iconst 1, 1), (520, .iadd, 1), (521, .iaload, 1), (522, .invokevirtual 63, 3), (525, .pop, 1), (526, .goto 784, 3), (529, .aload_n 1, 1), (530, .aload_n 0, 1), (531, .iload_n 3, 1), (532, .iconst 1, 1), (533, .iadd, 1), (534, .iaload, 1), (535, .invokevirtual 64, 3), (538, .pop, 1), (539, .aload_n 2, 1), (540, .aload_n 0, 1), (541, .iload_n 3, 1), (542, .iconst 1, 1), (543, .iadd, 1)]
def mm_tL_17 : List (Nat × Instr × Nat) := [(544, .iaload, 1), (545, .invokevirtual 67, 3), (548, .pop, 1), (549, .goto 761, 3), (552, .aload_n 1, 1), (553, .invokevirtual 68, 3), (556, .pop, 1), (557, .aload_n 2, 1), (558, .invokevirtual 71, 3), (561, .pop, 1), (562, .goto 748, 3), (565, .aload_n 1, 1), (566, .aload_n 0, 1), (567, .iload_n 3, 1), (568, .iconst 1, 1), (569, .iadd, 1), (570, .iaload, 1), (571, .invokevirtual 72, 3), (574, .pop, 1), (575, .aload_n 2, 1)]
def mm_tL_18 : List (Nat × Instr × Nat) := [(576, .aload_n 0, 1), (577, .iload_n 3, 1), (578, .iconst 1, 1), (579, .iadd, 1), (580, .iaload, 1), (581, .invokevirtual 75, 3), (584, .pop, 1), (585, .goto 725, 3), (588, .aload_n 1, 1), (589, .aload_n 0, 1), (590, .iload_n 3, 1), (591, .iconst 1, 1), (592, .iadd, 1), (593, .iaload, 1), (594, .invokevirtual 76, 3), (597, .pop, 1), (598, .aload_n 2, 1), (599, .aload_n 0, 1), (600, .iload_n 3, 1), (601, .iconst 1, 1), (602, .iadd, 1), (603, .iaload, 1), (604, .invokevirtual 79, 3), (607, .pop, 1)]
def mm_tL_19 : List (Nat × Instr × Nat) := [(608, .goto 702, 3), (611, .aload_n 1, 1), (612, .aload_n 0, 1), (613, .iload_n 3, 1), (614, .iconst 1, 1), (615, .iadd, 1), (616, .iaload, 1), (617, .aload_n 0, 1), (618, .iload_n 3, 1), (619, .iconst 2, 1), (620, .iadd, 1), (621, .iaload, 1), (622, .invokevirtual 80, 3), (625, .pop, 1), (626, .aload_n 2, 1), (627, .aload_n 0, 1), (628, .iload_n 3, 1), (629, .iconst 1, 1), (630, .iadd, 1), (631, .iaload, 1), (632, .aload_n 0, 1), (633, .iload_n 3, 1), (634, .iconst 2, 1), (635, .iadd, 1), (636, .iaload, 1), (637, .invokevirtual 83, 3)]
def mm_tL_20 : List (Nat × Instr × Nat) := [(640, .pop, 1), (641, .goto 669, 3), (644, .aload_n 1, 1), (645, .aload_n 0, 1), (646, .iload_n 3, 1), (647, .iconst 1, 1), (648, .iadd, 1), (649, .iaload, 1), (650, .aload_n 0, 1), (651, .iload_n 3, 1), (652, .iconst 2, 1), (653, .iadd, 1), (654, .iaload, 1), (655, .invokevirtual 84, 3), (658, .pop, 1), (659, .aload_n 2, 1), (660, .aload_n 0, 1), (661, .iload_n 3, 1), (662, .iconst 1, 1), (663, .iadd, 1), (664, .iaload, 1), (665, .aload_n 0, 1), (666, .iload_n 3, 1), (667, .iconst 2, 1), (668, .iadd, 1), (669, .iaload, 1), (670, .invokevirtual 87, 3)]
def mm_tL_21 : List (Nat × Instr × Nat) := [(673, .pop, 1), (674, .goto 636, 3), (677, .aload_n 1, 1), (678, .aload_n 0, 1), (679, .iload_n 3, 1), (680, .iconst 1, 1), (681, .iadd, 1), (682, .iaload, 1), (683, .aload_n 0, 1), (684, .iload_n 3, 1), (685, .iconst 2, 1), (686, .iadd, 1), (687, .iaload, 1), (688, .invokevirtual 88, 3), (691, .pop, 1), (692, .aload_n 2, 1), (693, .aload_n 0, 1), (694, .iload_n 3, 1), (695, .iconst 1, 1), (696, .iadd, 1), (697, .iaload, 1), (698, .aload_n 0, 1), (699, .iload_n 3, 1), (700, .iconst 2, 1), (701, .iadd, 1), (702, .iaload, 1), (703, .invokevirtual 91, 3)]
def mm_tL_22 : List (Nat × Instr × Nat) := [(706, .pop, 1), (707, .goto 603, 3), (710, .aload_n 1, 1), (711, .aload_n 0, 1), (712, .iload_n 3, 1), (713, .iconst 1, 1), (714, .iadd, 1), (715, .iaload, 1), (716, .invokevirtual 92, 3), (719, .pop, 1), (720, .aload_n 2, 1), (721, .aload_n 0, 1), (722, .iload_n 3, 1), (723, .iconst 1, 1), (724, .iadd, 1), (725, .iaload, 1), (726, .invokevirtual 95, 3), (729, .pop, 1), (730, .goto 580, 3), (733, .aload_n 1, 1), (734, .aload_n 0, 1), (735, .iload_n 3, 1)]
def mm_tL_23 : List (Nat × Instr × Nat) := [(736, .iconst 1, 1), (737, .iadd, 1), (738, .iaload, 1), (739, .aload_n 0, 1), (740, .iload_n 3, 1), (741, .iconst 2, 1), (742, .iadd, 1), (743, .iaload, 1), (744, .invokevirtual 96, 3), (747, .pop, 1), (748, .aload_n 2, 1), (749, .aload_n 0, 1), (750, .iload_n 3, 1), (751, .iconst 1, 1), (752, .iadd, 1), (753, .iaload, 1), (754, .aload_n 0, 1), (755, .iload_n 3, 1), (756, .iconst 2, 1), (757, .iadd, 1), (758, .iaload, 1), (759, .invokevirtual 99, 3), (762, .pop, 1), (763, .goto 547, 3), (766, .aload_n 1, 1), (767, .aload_n 0, 1)]
def mm_tL_24 : List (Nat × Instr × Nat) := [(768, .iload_n 3, 1), (769, .iconst 1, 1), (770, .iadd, 1), (771, .iaload, 1), (772, .invokevirtual 100, 3), (775, .pop, 1), (776, .aload_n 2, 1), (777, .aload_n 0, 1), (778, .iload_n 3, 1), (779, .iconst 1, 1), (780, .iadd, 1), (781, .iaload, 1), (782, .invokevirtual 103, 3), (785, .pop, 1), (786, .goto 524, 3), (789, .aload_n 1, 1), (790, .aload_n 0, 1), (791, .iload_n 3, 1), (792, .iconst 1, 1), (793, .iadd, 1), (794, .iaload, 1), (795, .aload_n 0, 1), (796, .iload_n 3, 1), (797, .iconst 2, 1), (798, .iadd, 1), (799, .iaload, 1)]
def mm_tL_25 : List (Nat × Instr × Nat) := [(800, .invokevirtual 104, 3), (803, .pop, 1), (804, .aload_n 2, 1), (805, .aload_n 0, 1), (806, .iload_n 3, 1), (807, .iconst 1, 1), (808, .iadd, 1), (809, .iaload, 1), (810, .aload_n 0, 1), (811, .iload_n 3, 1), (812, .iconst 2, 1), (813, .iadd, 1), (814, .iaload, 1), (815, .invokevirtual 107, 3), (818, .pop, 1), (819, .goto 491, 3), (822, .aload_n 1, 1), (823, .aload_n 0, 1), (824, .iload_n 3, 1), (825, .iconst 1, 1), (826, .iadd, 1), (827, .iaload, 1), (828, .aload_n 0, 1), (829, .iload_n 3, 1), (830, .iconst 2, 1), (831, .iadd, 1)]
def mm_tL_26 : List (Nat × Instr × Nat) := [(832, .iaload, 1), (833, .invokevirtual 108, 3), (836, .pop, 1), (837, .aload_n 2, 1), (838, .aload_n 0, 1), (839, .iload_n 3, 1), (840, .iconst 1, 1), (841, .iadd, 1), (842, .iaload, 1), (843, .aload_n 0, 1), (844, .iload_n 3, 1), (845, .iconst 2, 1), (846, .iadd, 1), (847, .iaload, 1), (848, .invokevirtual 111, 3), (851, .pop, 1), (852, .goto 458, 3), (855, .aload_n 1, 1), (856, .aload_n 0, 1), (857, .iload_n 3, 1), (858, .iconst 1, 1), (859, .iadd, 1), (860, .iaload, 1), (861, .invokevirtual 112, 3)]
def mm_tL_27 : List (Nat × Instr × Nat) := [(864, .pop, 1), (865, .aload_n 2, 1), (866, .aload_n 0, 1), (867, .iload_n 3, 1), (868, .iconst 1, 1), (869, .iadd, 1), (870, .iaload, 1), (871, .invokevirtual 115, 3), (874, .pop, 1), (875, .goto 435, 3), (878, .aload_n 1, 1), (879, .aload_n 0, 1), (880, .iload_n 3, 1), (881, .iconst 1, 1), (882, .iadd, 1), (883, .iaload, 1), (884, .aload_n 0, 1), (885, .iload_n 3, 1), (886, .iconst 2, 1), (887, .iadd, 1), (888, .iaload, 1), (889, .invokevirtual 116, 3), (892, .pop, 1), (893, .aload_n 2, 1), (894, .aload_n 0, 1), (895, .iload_n 3, 1)]
def mm_tL_28 : List (Nat × Instr × Nat) := [(896, .iconst 1, 1), (897, .iadd, 1), (898, .iaload, 1), (899, .aload_n 0, 1), (900, .iload_n 3, 1), (901, .iconst 2, 1), (902, .iadd, 1), (903, .iaload, 1), (904, .invokevirtual 119, 3), (907, .pop, 1), (908, .goto 402, 3), (911, .aload_n 1, 1), (912, .aload_n 0, 1), (913, .iload_n 3, 1), (914, .iconst 1, 1), (915, .iadd, 1), (916, .iaload, 1), (917, .invokevirtual 120, 3), (920, .pop, 1), (921, .aload_n 2, 1), (922, .aload_n 0, 1), (923, .iload_n 3, 1), (924, .iconst 1, 1), (925, .iadd, 1), (926, .iaload, 1), (927, .invokevirtual 123, 3)]
def mm_tL_29 : List (Nat × Instr × Nat) := [(930, .pop, 1), (931, .goto 379, 3), (934, .aload_n 1, 1), (935, .aload_n 0, 1), (936, .iload_n 3, 1), (937, .iconst 1, 1), (938, .iadd, 1), (939, .iaload, 1), (940, .invokevirtual 124, 3), (943, .pop, 1), (944, .aload_n 2, 1), (945, .aload_n 0, 1), (946, .iload_n 3, 1), (947, .iconst 1, 1), (948, .iadd, 1), (949, .iaload, 1), (950, .invokevirtual 127, 3), (953, .pop, 1), (954, .goto 356, 3), (957, .aload_n 1, 1), (958, .aload_n 0, 1), (959, .iload_n 3, 1)]
def mm_tL_30 : List (Nat × Instr × Nat) := [(960, .iconst 1, 1), (961, .iadd, 1), (962, .iaload, 1), (963, .invokevirtual 128, 3), (966, .pop, 1), (967, .aload_n 2, 1), (968, .aload_n 0, 1), (969, .iload_n 3, 1), (970, .iconst 1, 1), (971, .iadd, 1), (972, .iaload, 1), (973, .invokevirtual 131, 3), (976, .pop, 1), (977, .goto 333, 3), (980, .aload_n 1, 1), (981, .aload_n 0, 1), (982, .iload_n 3, 1), (983, .iconst 1, 1), (984, .iadd, 1), (985, .iaload, 1), (986, .invokevirtual 132, 3), (989, .pop, 1), (990, .aload_n 2, 1), (991, .aload_n 0, 1)]
def mm_tL_31 : List (Nat × Instr × Nat) := [(992, .iload_n 3, 1), (993, .iconst 1, 1), (994, .iadd, 1), (995, .iaload, 1), (996, .invokevirtual 135, 3), (999, .pop, 1), (1000, .goto 310, 3), (1003, .aload_n 1, 1), (1004, .aload_n 0, 1), (1005, .iload_n 3, 1), (1006, .iconst 1, 1), (1007, .iadd, 1), (1008, .iaload, 1), (1009, .aload_n 0, 1), (1010, .iload_n 3, 1), (1011, .iconst 2, 1), (1012, .iadd, 1), (1013, .iaload, 1), (1014, .invokevirtual 136, 3), (1017, .pop, 1), (1018, .aload_n 2, 1), (1019, .aload_n 0, 1), (1020, .iload_n 3, 1), (1021, .iconst 1, 1), (1022, .iadd, 1), (1023, .iaload, 1)]
def mm_tL_32 : List (Nat × Instr × Nat) := [(1024, .aload_n 0, 1), (1025, .iload_n 3, 1), (1026, .iconst 2, 1), (1027, .iadd, 1), (1028, .iaload, 1), (1029, .invokevirtual 139, 3), (1032, .pop, 1), (1033, .goto 277, 3), (1036, .aload_n 1, 1), (1037, .aload_n 0, 1), (1038, .iload_n 3, 1), (1039, .iconst 1, 1), (1040, .iadd, 1), (1041, .iaload, 1), (1042, .aload_n 0, 1), (1043, .iload_n 3, 1), (1044, .iconst 2, 1), (1045, .iadd, 1), (1046, .iaload, 1), (1047, .aload_n 0, 1), (1048, .iload_n 3, 1), (1049, .iconst 3, 1), (1050, .iadd, 1), (1051, .iaload, 1), (1052, .aload_n 0, 1), (1053, .iload_n 3, 1), (1054, .iconst 4, 1), (1055, .iadd, 1)]
def mm_tL_33 : List (Nat × Instr × Nat) := [(1056, .iaload, 1), (1057, .invokevirtual 140, 3), (1060, .pop, 1), (1061, .aload_n 2, 1), (1062, .aload_n 0, 1), (1063, .iload_n 3, 1), (1064, .iconst 1, 1), (1065, .iadd, 1), (1066, .iaload, 1), (1067, .aload_n 0, 1), (1068, .iload_n 3, 1), (1069, .iconst 2, 1), (1070, .iadd, 1), (1071, .iaload, 1), (1072, .aload_n 0, 1), (1073, .iload_n 3, 1), (1074, .iconst 3, 1), (1075, .iadd, 1), (1076, .iaload, 1), (1077, .aload_n 0, 1), (1078, .iload_n 3, 1), (1079, .iconst 4, 1), (1080, .iadd, 1), (1081, .iaload, 1), (1082, .invokevirtual 144, 3), (1085, .pop, 1), (1086, .goto 224, 3)]
def mm_tL_34 : List (Nat × Instr × Nat) := [(1089, .aload_n 1, 1), (1090, .aload_n 0, 1), (1091, .iload_n 3, 1), (1092, .iconst 1, 1), (1093, .iadd, 1), (1094, .iaload, 1), (1095, .invokevirtual 145, 3), (1098, .pop, 1), (1099, .aload_n 2, 1), (1100, .aload_n 0, 1), (1101, .iload_n 3, 1), (1102, .iconst 1, 1), (1103, .iadd, 1), (1104, .iaload, 1), (1105, .invokevirtual 148, 3), (1108, .pop, 1), (1109, .goto 201, 3), (1112, .aload_n 1, 1), (1113, .aload_n 0, 1), (1114, .iload_n 3, 1), (1115, .iconst 1, 1), (1116, .iadd, 1), (1117, .iaload, 1), (1118, .invokevirtual 149, 3)]
def mm_tL_35 : List (Nat × Instr × Nat) := [(1121, .pop, 1), (1122, .aload_n 2, 1), (1123, .aload_n 0, 1), (1124, .iload_n 3, 1), (1125, .iconst 1, 1), (1126, .iadd, 1), (1127, .iaload, 1), (1128, .invokevirtual 152, 3), (1131, .pop, 1), (1132, .goto 178, 3), (1135, .aload_n 1, 1), (1136, .aload_n 0, 1), (1137, .iload_n 3, 1), (1138, .iconst 1, 1), (1139, .iadd, 1), (1140, .iaload, 1), (1141, .aload_n 0, 1), (1142, .iload_n 3, 1), (1143, .iconst 2, 1), (1144, .iadd, 1), (1145, .iaload, 1), (1146, .aload_n 0, 1), (1147, .iload_n 3, 1), (1148, .iconst 3, 1), (1149, .iadd, 1), (1150, .iaload, 1), (1151, .invokevirtual 153, 3)]
def mm_tL_36 : List (Nat × Instr × Nat) := [(1154, .pop, 1), (1155, .aload_n 2, 1), (1156, .aload_n 0, 1), (1157, .iload_n 3, 1), (1158, .iconst 1, 1), (1159, .iadd, 1), (1160, .iaload, 1), (1161, .aload_n 0, 1), (1162, .iload_n 3, 1), (1163, .iconst 2, 1), (1164, .iadd, 1), (1165, .iaload, 1), (1166, .aload_n 0, 1), (1167, .iload_n 3, 1), (1168, .iconst 3, 1), (1169, .iadd, 1), (1170, .iaload, 1), (1171, .invokevirtual 157, 3), (1174, .pop, 1), (1175, .goto 135, 3), (1178, .aload_n 1, 1), (1179, .aload_n 0, 1), (1180, .iload_n 3, 1), (1181, .iconst 1, 1), (1182, .iadd, 1), (1183, .iaload, 1)]
def mm_tL_37 : List (Nat × Instr × Nat) := [(1184, .aload_n 0, 1), (1185, .iload_n 3, 1), (1186, .iconst 2, 1), (1187, .iadd, 1), (1188, .iaload, 1), (1189, .aload_n 0, 1), (1190, .iload_n 3, 1), (1191, .iconst 3, 1), (1192, .iadd, 1), (1193, .iaload, 1), (1194, .invokevirtual 158, 3), (1197, .pop, 1), (1198, .aload_n 2, 1), (1199, .aload_n 0, 1), (1200, .iload_n 3, 1), (1201, .iconst 1, 1), (1202, .iadd, 1), (1203, .iaload, 1), (1204, .aload_n 0, 1), (1205, .iload_n 3, 1), (1206, .iconst 2, 1), (1207, .iadd, 1), (1208, .iaload, 1), (1209, .aload_n 0, 1), (1210, .iload_n 3, 1), (1211, .iconst 3, 1), (1212, .iadd, 1), (1213, .iaload, 1), (1214, .invokevirtual 161, 3)]
def mm_tL_38 : List (Nat × Instr × Nat) := [(1217, .pop, 1), (1218, .goto 92, 3), (1221, .aload_n 1, 1), (1222, .aload_n 0, 1), (1223, .iload_n 3, 1), (1224, .iconst 1, 1), (1225, .iadd, 1), (1226, .iaload, 1), (1227, .aload_n 0, 1), (1228, .iload_n 3, 1), (1229, .iconst 2, 1), (1230, .iadd, 1), (1231, .iaload, 1), (1232, .aload_n 0, 1), (1233, .iload_n 3, 1), (1234, .iconst 3, 1), (1235, .iadd, 1), (1236, .iaload, 1), (1237, .aload_n 0, 1), (1238, .iload_n 3, 1), (1239, .iconst 4, 1), (1240, .iadd, 1), (1241, .iaload, 1), (1242, .invokevirtual 162, 3), (1245, .pop, 1), (1246, .aload_n 2, 1), (1247, .aload_n 0, 1)]
def mm_tL_39 : List (Nat × Instr × Nat) := [(1248, .iload_n 3, 1), (1249, .iconst 1, 1), (1250, .iadd, 1), (1251, .iaload, 1), (1252, .aload_n 0, 1), (1253, .iload_n 3, 1), (1254, .iconst 2, 1), (1255, .iadd, 1), (1256, .iaload, 1), (1257, .aload_n 0, 1), (1258, .iload_n 3, 1), (1259, .iconst 3, 1), (1260, .iadd, 1), (1261, .iaload, 1), (1262, .aload_n 0, 1), (1263, .iload_n 3, 1), (1264, .iconst 4, 1), (1265, .iadd, 1), (1266, .iaload, 1), (1267, .invokevirtual 165, 3), (1270, .pop, 1), (1271, .goto 39, 3), (1274, .aload_n 1, 1), (1275, .invokevirtual 166, 3), (1278, .pop, 1), (1279, .aload_n 2, 1)]
def mm_tL_40 : List (Nat × Instr × Nat) := [(1280, .invokevirtual 169, 3), (1283, .pop, 1), (1284, .goto 26, 3), (1287, .aload_n 1, 1), (1288, .aload_n 0, 1), (1289, .iload_n 3, 1), (1290, .iconst 1, 1), (1291, .iadd, 1), (1292, .iaload, 1), (1293, .invokevirtual 170, 3), (1296, .aload_n 2, 1), (1297, .aload_n 0, 1), (1298, .iload_n 3, 1), (1299, .iconst 1, 1), (1300, .iadd, 1), (1301, .iaload, 1), (1302, .invokevirtual 173, 3), (1305, .if_icmp .eq 5, 3), (1308, .iconst 0, 1), (1309, .ireturn, 1), (1310, .iinc 3 5, 3)]
def mm_tL_41 : List (Nat × Instr × Nat) := [(1313, .goto (-1295), 3), (1316, .iconst 1, 1), (1317, .ireturn, 1)]
def mm_t202 : mm_T := [mm_tL_0, mm_tL_1, mm_tL_2, mm_tL_3, mm_tL_4, mm_tL_5, mm_tL_6, mm_tL_7, mm_tL_8, mm_tL_9, mm_tL_10, mm_tL_11, mm_tL_12, mm_tL_13, mm_tL_14, mm_tL_15, mm_tL_16, mm_tL_17, mm_tL_18, mm_tL_19, mm_tL_20, mm_tL_21, mm_tL_22, mm_tL_23, mm_tL_24, mm_tL_25, mm_tL_26, mm_tL_27, mm_tL_28, mm_tL_29, mm_tL_30, mm_tL_31, mm_tL_32, mm_tL_33, mm_tL_34, mm_tL_35, mm_tL_36, mm_tL_37, mm_tL_38, mm_tL_39, mm_tL_40, mm_tL_41]
def mm_r202 : mm_R := ((yL_law, cL_law, 4, (some .boolean), 1, true, [], (9, 0)),
   RL, mm_t202, [(7, 7, 9, 0, 0, [(1, 19), (1, 20), (1, 1)]),
    (9, 3, 63, 9, 0, [(1, 21)]),
    (10, 7, 10, 0, 0, [(4, 226), (4, 227), (1, 11)]),
    (12, 3, 119, 10, 0, [(4, 228)]),
    (13, 11, 0, 0, 4294967295, [(6, 193)]),
    (15, 1, 64, 9, 0, [(2, 188)]),
    (19, 1, 121, 10, 0, [(5, 132)]),
    (20, 1, 65, 9, 0, [(2, 192)]),
    (24, 1, 122, 10, 0, [(5, 136)]),
    (25, 1, 66, 9, 0, [(2, 196)]),
    (29, 1, 135, 10, 0, [(5, 143)]),
    (30, 1, 68, 9, 0, [(3, 141)]),
    (33, 1, 136, 10, 0, [(5, 202)]),
    (34, 1, 69, 9, 0, [(3, 145)]),
    (37, 1, 137, 10, 0, [(5, 206)]),
    (38, 1, 70, 9, 0, [(3, 149)]),
    (42, 1, 141, 10, 0, [(5, 210)]),
    (43, 1, 71, 9, 0, [(3, 157)]),
    (46, 1, 142, 10, 0, [(5, 218)]),
    (47, 1, 72, 9, 0, [(3, 170)]),
    (50, 1, 143, 10, 0, [(5, 226)]),
    (51, 1, 73, 9, 0, [(3, 174)]),
    (55, 1, 144, 10, 0, [(5, 231)]),
    (56, 1, 74, 9, 0, [(3, 178)]),
    (59, 1, 145, 10, 0, [(5, 235)]),
    (60, 1, 75, 9, 0, [(3, 186)]),
    (63, 1, 149, 10, 0, [(5, 239)]),
    (64, 1, 76, 9, 0, [(3, 202)]),
    (67, 1, 156, 10, 0, [(6, 15)]),
    (68, 1, 77, 9, 0, [(4, 13)]),
    (71, 1, 157, 10, 0, [(6, 36)]),
    (72, 1, 78, 9, 0, [(4, 17)]),
    (75, 1, 158, 10, 0, [(6, 44)]),
    (76, 1, 79, 9, 0, [(4, 24)]),
    (79, 1, 159, 10, 0, [(6, 52)]),
    (80, 1, 80, 9, 0, [(4, 28)]),
    (83, 1, 163, 10, 0, [(6, 56)]),
    (84, 1, 81, 9, 0, [(4, 36)]),
    (87, 1, 164, 10, 0, [(6, 68)]),
    (88, 1, 82, 9, 0, [(4, 46)]),
    (91, 1, 165, 10, 0, [(6, 80)]),
    (92, 1, 83, 9, 0, [(4, 62)]),
    (95, 1, 166, 10, 0, [(6, 85)]),
    (96, 1, 84, 9, 0, [(4, 66)]),
    (99, 1, 167, 10, 0, [(6, 89)]),
    (100, 1, 85, 9, 0, [(4, 70)]),
    (103, 1, 170, 10, 0, [(6, 94)]),
    (104, 1, 86, 9, 0, [(4, 88)]),
    (107, 1, 172, 10, 0, [(6, 105)]),
    (108, 1, 87, 9, 0, [(4, 112)]),
    (111, 1, 174, 10, 0, [(6, 113)]),
    (112, 1, 88, 9, 0, [(4, 116)]),
    (115, 1, 175, 10, 0, [(6, 121)]),
    (116, 1, 89, 9, 0, [(4, 124)]),
    (119, 1, 177, 10, 0, [(6, 125)]),
    (120, 1, 90, 9, 0, [(4, 128)]),
    (123, 1, 178, 10, 0, [(6, 133)]),
    (124, 1, 91, 9, 0, [(4, 132)]),
    (127, 1, 179, 10, 0, [(6, 137)]),
    (128, 1, 92, 9, 0, [(4, 140)]),
    (131, 1, 180, 10, 0, [(6, 141)]),
    (132, 1, 93, 9, 0, [(4, 144)]),
    (135, 1, 181, 10, 0, [(6, 145)]),
    (136, 1, 94, 9, 0, [(4, 148)]),
    (139, 1, 182, 10, 0, [(6, 149)]),
    (140, 1, 95, 9, 0, [(4, 152)]),
    (144, 1, 183, 10, 0, [(6, 153)]),
    (145, 1, 96, 9, 0, [(4, 157)]),
    (148, 1, 185, 10, 0, [(6, 160)]),
    (149, 1, 97, 9, 0, [(4, 173)]),
    (152, 1, 186, 10, 0, [(6, 168)]),
    (153, 1, 98, 9, 0, [(4, 177)]),
    (157, 1, 187, 10, 0, [(6, 172)]),
    (158, 1, 99, 9, 0, [(4, 192)]),
    (161, 1, 188, 10, 0, [(6, 177)]),
    (162, 1, 100, 9, 0, [(4, 208)]),
    (165, 1, 189, 10, 0, [(6, 181)]),
    (166, 1, 101, 9, 0, [(4, 212)]),
    (169, 1, 190, 10, 0, [(6, 185)]),
    (170, 1, 102, 9, 0, [(4, 216)]),
    (173, 1, 191, 10, 0, [(6, 189)])])
def mm_rs : List mm_R := [mm_r0, mm_r1, mm_r2, mm_r3, mm_r4, mm_r5, mm_r6, mm_r7, mm_r8, mm_r9, mm_r10, mm_r11, mm_r12, mm_r13, mm_r14, mm_r15, mm_r16, mm_r17, mm_r18, mm_r19, mm_r20, mm_r21, mm_r22, mm_r23, mm_r24, mm_r25, mm_r26, mm_r27, mm_r28, mm_r29, mm_r30, mm_r31, mm_r32, mm_r33, mm_r34, mm_r35, mm_r36, mm_r37, mm_r38, mm_r39, mm_r40, mm_r41, mm_r42, mm_r43, mm_r44, mm_r45, mm_r46, mm_r47, mm_r48, mm_r49, mm_r50, mm_r51, mm_r52, mm_r53, mm_r54, mm_r55, mm_r56, mm_r57, mm_r58, mm_r59, mm_r60, mm_r61, mm_r62, mm_r63, mm_r64, mm_r65, mm_r66, mm_r67, mm_r68, mm_r69, mm_r70, mm_r71, mm_r72, mm_r73, mm_r74, mm_r75, mm_r76, mm_r77, mm_r78, mm_r79, mm_r80, mm_r81, mm_r82, mm_r83, mm_r84, mm_r85, mm_r86, mm_r87, mm_r88, mm_r89, mm_r90, mm_r91, mm_r92, mm_r93, mm_r94, mm_r95, mm_r96, mm_r97, mm_r98, mm_r99, mm_r100, mm_r101, mm_r102, mm_r103, mm_r104, mm_r105, mm_r106, mm_r107, mm_r108, mm_r109, mm_r110, mm_r111, mm_r112, mm_r113, mm_r114, mm_r115, mm_r116, mm_r117, mm_r118, mm_r119, mm_r120, mm_r121, mm_r122, mm_r123, mm_r124, mm_r125, mm_r126, mm_r127, mm_r128, mm_r129, mm_r130, mm_r131, mm_r132, mm_r133, mm_r134, mm_r135, mm_r136, mm_r137, mm_r138, mm_r139, mm_r140, mm_r141, mm_r142, mm_r143, mm_r144, mm_r145, mm_r146, mm_r147, mm_r148, mm_r149, mm_r150, mm_r151, mm_r152, mm_r153, mm_r154, mm_r155, mm_r156, mm_r157, mm_r158, mm_r159, mm_r160, mm_r161, mm_r162, mm_r163, mm_r164, mm_r165, mm_r166, mm_r167, mm_r168, mm_r169, mm_r170, mm_r171, mm_r172, mm_r173, mm_r174, mm_r175, mm_r176, mm_r177, mm_r178, mm_r179, mm_r180, mm_r181, mm_r182, mm_r183, mm_r184, mm_r185, mm_r186, mm_r187, mm_r188, mm_r189, mm_r190, mm_r191, mm_r192, mm_r193, mm_r194, mm_r195, mm_r196, mm_r197, mm_r198, mm_r199, mm_r200, mm_r201]
abbrev mm_rL : mm_R := mm_r202
