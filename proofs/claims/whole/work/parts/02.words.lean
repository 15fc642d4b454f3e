/-! what the tables say of the links, the methods and the classes: decided once, over whole lists -/
def lk {α : Type} : List (Nat × α) → Nat → Option α
  | [], _ => none
  | q :: r, k => if q.1 = k then some q.2 else lk r k
theorem lk_mem {α : Type} : ∀ {l : List (Nat × α)} {k : Nat} {v : α}, lk l k = some v → (k, v) ∈ l
  | [], k, v, h => by cases h
  | q :: r, k, v, h => by
    unfold lk at h
    split at h
    · next e => cases h; exact List.mem_cons.mpr (Or.inl (by rw [← e]))
    · exact List.mem_cons_of_mem _ (lk_mem h)
theorem mDef {α : Type} (l : List (List α)) (o : Nat) (h : l.length ≤ o) : l.getD o [] = [] := by
  rw [List.getD_eq_getElem?_getD, List.getElem?_eq_none h]; rfl
def mOwnN : Nat := 14
def mFchk (o : Nat) (e : Nat × Nat × Nat) : Bool := match vwCl[e.2.1]?, lk (mFq o) e.1 with
  | some r, some q => decide (e.2.2 < r.2.2) && decide ((r.2.1 e.2.2).1 = r.1) && decide (lw_tbl[mPriv + q.1]? = some (if q.2 then .fieldLinkNest (mCn o) e.1 r.1 (r.2.1 e.2.2).2.1 (r.2.1 e.2.2).2.2.1 "CarryAlike" else .fieldLink (mCn o) e.1 r.1 (r.2.1 e.2.2).2.1 (r.2.1 e.2.2).2.2.1))
  | _, _ => false
set_option maxRecDepth 100000 in
theorem mF_ok : (List.range mOwnN).all (fun o => (mFt o).all (mFchk o)) = true := by decide +kernel
def mMchk (o : Nat) (e : Nat × Nat) : Bool := match lk (mMq o) e.1 with
  | some q => decide (e.2 < mCount) && decide ((mNm e.2).cls ≠ "CarryAlikeLaw") && decide (lw_tbl[mPriv + q.1]? = some (if q.2 then .methodLinkNest (mCn o) e.1 (mNm e.2) "CarryAlike" else .methodLink (mCn o) e.1 (mNm e.2)))
  | none => false
set_option maxRecDepth 100000 in
theorem mM_ok : (List.range mOwnN).all (fun o => (mMt o).all (mMchk o)) = true := by decide +kernel
def mYcP (y : Nat) : Prop := lw_tbl[(mPos y).1]? = some (.code (mNm y) (mCd y) (mMx y) (mRt y))
set_option maxRecDepth 200000 in
theorem mYc_0 : mYcP 0 := rfl
set_option maxRecDepth 200000 in
theorem mYc_1 : mYcP 1 := rfl
set_option maxRecDepth 200000 in
theorem mYc_2 : mYcP 2 := rfl
set_option maxRecDepth 200000 in
theorem mYc_3 : mYcP 3 := rfl
set_option maxRecDepth 200000 in
theorem mYc_4 : mYcP 4 := rfl
set_option maxRecDepth 200000 in
theorem mYc_5 : mYcP 5 := rfl
set_option maxRecDepth 200000 in
theorem mYc_6 : mYcP 6 := rfl
set_option maxRecDepth 200000 in
theorem mYc_7 : mYcP 7 := rfl
set_option maxRecDepth 200000 in
theorem mYc_8 : mYcP 8 := rfl
set_option maxRecDepth 200000 in
theorem mYc_9 : mYcP 9 := rfl
set_option maxRecDepth 200000 in
theorem mYc_10 : mYcP 10 := rfl
set_option maxRecDepth 200000 in
theorem mYc_11 : mYcP 11 := rfl
set_option maxRecDepth 200000 in
theorem mYc_12 : mYcP 12 := rfl
set_option maxRecDepth 200000 in
theorem mYc_13 : mYcP 13 := rfl
set_option maxRecDepth 200000 in
theorem mYc_14 : mYcP 14 := rfl
set_option maxRecDepth 200000 in
theorem mYc_15 : mYcP 15 := rfl
set_option maxRecDepth 200000 in
theorem mYc_16 : mYcP 16 := rfl
set_option maxRecDepth 200000 in
theorem mYc_17 : mYcP 17 := rfl
set_option maxRecDepth 200000 in
theorem mYc_18 : mYcP 18 := rfl
set_option maxRecDepth 200000 in
theorem mYc_19 : mYcP 19 := rfl
set_option maxRecDepth 200000 in
theorem mYc_20 : mYcP 20 := rfl
set_option maxRecDepth 200000 in
theorem mYc_21 : mYcP 21 := rfl
set_option maxRecDepth 200000 in
theorem mYc_22 : mYcP 22 := rfl
set_option maxRecDepth 200000 in
theorem mYc_23 : mYcP 23 := rfl
set_option maxRecDepth 200000 in
theorem mYc_24 : mYcP 24 := rfl
set_option maxRecDepth 200000 in
theorem mYc_25 : mYcP 25 := rfl
set_option maxRecDepth 200000 in
theorem mYc_26 : mYcP 26 := rfl
set_option maxRecDepth 200000 in
theorem mYc_27 : mYcP 27 := rfl
set_option maxRecDepth 200000 in
theorem mYc_28 : mYcP 28 := rfl
set_option maxRecDepth 200000 in
theorem mYc_29 : mYcP 29 := rfl
set_option maxRecDepth 200000 in
theorem mYc_30 : mYcP 30 := rfl
set_option maxRecDepth 200000 in
theorem mYc_31 : mYcP 31 := rfl
set_option maxRecDepth 200000 in
theorem mYc_32 : mYcP 32 := rfl
set_option maxRecDepth 200000 in
theorem mYc_33 : mYcP 33 := rfl
set_option maxRecDepth 200000 in
theorem mYc_34 : mYcP 34 := rfl
set_option maxRecDepth 200000 in
theorem mYc_35 : mYcP 35 := rfl
set_option maxRecDepth 200000 in
theorem mYc_36 : mYcP 36 := rfl
set_option maxRecDepth 200000 in
theorem mYc_37 : mYcP 37 := rfl
set_option maxRecDepth 200000 in
theorem mYc_38 : mYcP 38 := rfl
set_option maxRecDepth 200000 in
theorem mYc_39 : mYcP 39 := rfl
set_option maxRecDepth 200000 in
theorem mYc_40 : mYcP 40 := rfl
set_option maxRecDepth 200000 in
theorem mYc_41 : mYcP 41 := rfl
set_option maxRecDepth 200000 in
theorem mYc_42 : mYcP 42 := rfl
set_option maxRecDepth 200000 in
theorem mYc_43 : mYcP 43 := rfl
set_option maxRecDepth 200000 in
theorem mYc_44 : mYcP 44 := rfl
set_option maxRecDepth 200000 in
theorem mYc_45 : mYcP 45 := rfl
set_option maxRecDepth 200000 in
theorem mYc_46 : mYcP 46 := rfl
set_option maxRecDepth 200000 in
theorem mYc_47 : mYcP 47 := rfl
set_option maxRecDepth 200000 in
theorem mYc_48 : mYcP 48 := rfl
set_option maxRecDepth 200000 in
theorem mYc_49 : mYcP 49 := rfl
set_option maxRecDepth 200000 in
theorem mYc_50 : mYcP 50 := rfl
set_option maxRecDepth 200000 in
theorem mYc_51 : mYcP 51 := rfl
set_option maxRecDepth 200000 in
theorem mYc_52 : mYcP 52 := rfl
set_option maxRecDepth 200000 in
theorem mYc_53 : mYcP 53 := rfl
set_option maxRecDepth 200000 in
theorem mYc_54 : mYcP 54 := rfl
set_option maxRecDepth 200000 in
theorem mYc_55 : mYcP 55 := rfl
set_option maxRecDepth 200000 in
theorem mYc_56 : mYcP 56 := rfl
set_option maxRecDepth 200000 in
theorem mYc_57 : mYcP 57 := rfl
set_option maxRecDepth 200000 in
theorem mYc_58 : mYcP 58 := rfl
set_option maxRecDepth 200000 in
theorem mYc_59 : mYcP 59 := rfl
set_option maxRecDepth 200000 in
theorem mYc_60 : mYcP 60 := rfl
set_option maxRecDepth 200000 in
theorem mYc_61 : mYcP 61 := rfl
set_option maxRecDepth 200000 in
theorem mYc_62 : mYcP 62 := rfl
set_option maxRecDepth 200000 in
theorem mYc_63 : mYcP 63 := rfl
set_option maxRecDepth 200000 in
theorem mYc_64 : mYcP 64 := rfl
set_option maxRecDepth 200000 in
theorem mYc_65 : mYcP 65 := rfl
set_option maxRecDepth 200000 in
theorem mYc_66 : mYcP 66 := rfl
set_option maxRecDepth 200000 in
theorem mYc_67 : mYcP 67 := rfl
set_option maxRecDepth 200000 in
theorem mYc_68 : mYcP 68 := rfl
set_option maxRecDepth 200000 in
theorem mYc_69 : mYcP 69 := rfl
set_option maxRecDepth 200000 in
theorem mYc_70 : mYcP 70 := rfl
set_option maxRecDepth 200000 in
theorem mYc_71 : mYcP 71 := rfl
set_option maxRecDepth 200000 in
theorem mYc_72 : mYcP 72 := rfl
set_option maxRecDepth 200000 in
theorem mYc_73 : mYcP 73 := rfl
set_option maxRecDepth 200000 in
theorem mYc_74 : mYcP 74 := rfl
set_option maxRecDepth 200000 in
theorem mYc_75 : mYcP 75 := rfl
set_option maxRecDepth 200000 in
theorem mYc_76 : mYcP 76 := rfl
set_option maxRecDepth 200000 in
theorem mYc_77 : mYcP 77 := rfl
set_option maxRecDepth 200000 in
theorem mYc_78 : mYcP 78 := rfl
set_option maxRecDepth 200000 in
theorem mYc_79 : mYcP 79 := rfl
set_option maxRecDepth 200000 in
theorem mYc_80 : mYcP 80 := rfl
set_option maxRecDepth 200000 in
theorem mYc_81 : mYcP 81 := rfl
set_option maxRecDepth 200000 in
theorem mYc_82 : mYcP 82 := rfl
set_option maxRecDepth 200000 in
theorem mYc_83 : mYcP 83 := rfl
set_option maxRecDepth 200000 in
theorem mYc_84 : mYcP 84 := rfl
set_option maxRecDepth 200000 in
theorem mYc_85 : mYcP 85 := rfl
set_option maxRecDepth 200000 in
theorem mYc_86 : mYcP 86 := rfl
set_option maxRecDepth 200000 in
theorem mYc_87 : mYcP 87 := rfl
set_option maxRecDepth 200000 in
theorem mYc_88 : mYcP 88 := rfl
set_option maxRecDepth 200000 in
theorem mYc_89 : mYcP 89 := rfl
set_option maxRecDepth 200000 in
theorem mYc_90 : mYcP 90 := rfl
set_option maxRecDepth 200000 in
theorem mYc_91 : mYcP 91 := rfl
set_option maxRecDepth 200000 in
theorem mYc_92 : mYcP 92 := rfl
set_option maxRecDepth 200000 in
theorem mYc_93 : mYcP 93 := rfl
set_option maxRecDepth 200000 in
theorem mYc_94 : mYcP 94 := rfl
set_option maxRecDepth 200000 in
theorem mYc_95 : mYcP 95 := rfl
set_option maxRecDepth 200000 in
theorem mYc_96 : mYcP 96 := rfl
set_option maxRecDepth 200000 in
theorem mYc_97 : mYcP 97 := rfl
set_option maxRecDepth 200000 in
theorem mYc_98 : mYcP 98 := rfl
set_option maxRecDepth 200000 in
theorem mYc_99 : mYcP 99 := rfl
set_option maxRecDepth 200000 in
theorem mYc_100 : mYcP 100 := rfl
set_option maxRecDepth 200000 in
theorem mYc_101 : mYcP 101 := rfl
set_option maxRecDepth 200000 in
theorem mYc_102 : mYcP 102 := rfl
set_option maxRecDepth 200000 in
theorem mYc_103 : mYcP 103 := rfl
set_option maxRecDepth 200000 in
theorem mYc_104 : mYcP 104 := rfl
set_option maxRecDepth 200000 in
theorem mYc_105 : mYcP 105 := rfl
set_option maxRecDepth 200000 in
theorem mYc_106 : mYcP 106 := rfl
set_option maxRecDepth 200000 in
theorem mYc_107 : mYcP 107 := rfl
set_option maxRecDepth 200000 in
theorem mYc_108 : mYcP 108 := rfl
set_option maxRecDepth 200000 in
theorem mYc_109 : mYcP 109 := rfl
set_option maxRecDepth 200000 in
theorem mYc_110 : mYcP 110 := rfl
set_option maxRecDepth 200000 in
theorem mYc_111 : mYcP 111 := rfl
set_option maxRecDepth 200000 in
theorem mYc_112 : mYcP 112 := rfl
set_option maxRecDepth 200000 in
theorem mYc_113 : mYcP 113 := rfl
set_option maxRecDepth 200000 in
theorem mYc_114 : mYcP 114 := rfl
set_option maxRecDepth 200000 in
theorem mYc_115 : mYcP 115 := rfl
set_option maxRecDepth 200000 in
theorem mYc_116 : mYcP 116 := rfl
set_option maxRecDepth 200000 in
theorem mYc_117 : mYcP 117 := rfl
set_option maxRecDepth 200000 in
theorem mYc_118 : mYcP 118 := rfl
set_option maxRecDepth 200000 in
theorem mYc_119 : mYcP 119 := rfl
set_option maxRecDepth 200000 in
theorem mYc_120 : mYcP 120 := rfl
set_option maxRecDepth 200000 in
theorem mYc_121 : mYcP 121 := rfl
set_option maxRecDepth 200000 in
theorem mYc_122 : mYcP 122 := rfl
set_option maxRecDepth 200000 in
theorem mYc_123 : mYcP 123 := rfl
set_option maxRecDepth 200000 in
theorem mYc_124 : mYcP 124 := rfl
set_option maxRecDepth 200000 in
theorem mYc_125 : mYcP 125 := rfl
set_option maxRecDepth 200000 in
theorem mYc_126 : mYcP 126 := rfl
set_option maxRecDepth 200000 in
theorem mYc_127 : mYcP 127 := rfl
set_option maxRecDepth 200000 in
theorem mYc_128 : mYcP 128 := rfl
set_option maxRecDepth 200000 in
theorem mYc_129 : mYcP 129 := rfl
set_option maxRecDepth 200000 in
theorem mYc_130 : mYcP 130 := rfl
set_option maxRecDepth 200000 in
theorem mYc_131 : mYcP 131 := rfl
set_option maxRecDepth 200000 in
theorem mYc_132 : mYcP 132 := rfl
set_option maxRecDepth 200000 in
theorem mYc_133 : mYcP 133 := rfl
set_option maxRecDepth 200000 in
theorem mYc_134 : mYcP 134 := rfl
set_option maxRecDepth 200000 in
theorem mYc_135 : mYcP 135 := rfl
set_option maxRecDepth 200000 in
theorem mYc_136 : mYcP 136 := rfl
set_option maxRecDepth 200000 in
theorem mYc_137 : mYcP 137 := rfl
set_option maxRecDepth 200000 in
theorem mYc_138 : mYcP 138 := rfl
set_option maxRecDepth 200000 in
theorem mYc_139 : mYcP 139 := rfl
set_option maxRecDepth 200000 in
theorem mYc_140 : mYcP 140 := rfl
set_option maxRecDepth 200000 in
theorem mYc_141 : mYcP 141 := rfl
set_option maxRecDepth 200000 in
theorem mYc_142 : mYcP 142 := rfl
set_option maxRecDepth 200000 in
theorem mYc_143 : mYcP 143 := rfl
set_option maxRecDepth 200000 in
theorem mYc_144 : mYcP 144 := rfl
set_option maxRecDepth 200000 in
theorem mYc_145 : mYcP 145 := rfl
set_option maxRecDepth 200000 in
theorem mYc_146 : mYcP 146 := rfl
set_option maxRecDepth 200000 in
theorem mYc_147 : mYcP 147 := rfl
set_option maxRecDepth 200000 in
theorem mYc_148 : mYcP 148 := rfl
set_option maxRecDepth 200000 in
theorem mYc_149 : mYcP 149 := rfl
set_option maxRecDepth 200000 in
theorem mYc_150 : mYcP 150 := rfl
set_option maxRecDepth 200000 in
theorem mYc_151 : mYcP 151 := rfl
set_option maxRecDepth 200000 in
theorem mYc_152 : mYcP 152 := rfl
set_option maxRecDepth 200000 in
theorem mYc_153 : mYcP 153 := rfl
set_option maxRecDepth 200000 in
theorem mYc_154 : mYcP 154 := rfl
set_option maxRecDepth 200000 in
theorem mYc_155 : mYcP 155 := rfl
set_option maxRecDepth 200000 in
theorem mYc_156 : mYcP 156 := rfl
set_option maxRecDepth 200000 in
theorem mYc_157 : mYcP 157 := rfl
set_option maxRecDepth 200000 in
theorem mYc_158 : mYcP 158 := rfl
set_option maxRecDepth 200000 in
theorem mYc_159 : mYcP 159 := rfl
set_option maxRecDepth 200000 in
theorem mYc_160 : mYcP 160 := rfl
set_option maxRecDepth 200000 in
theorem mYc_161 : mYcP 161 := rfl
set_option maxRecDepth 200000 in
theorem mYc_162 : mYcP 162 := rfl
set_option maxRecDepth 200000 in
theorem mYc_163 : mYcP 163 := rfl
set_option maxRecDepth 200000 in
theorem mYc_164 : mYcP 164 := rfl
set_option maxRecDepth 200000 in
theorem mYc_165 : mYcP 165 := rfl
set_option maxRecDepth 200000 in
theorem mYc_166 : mYcP 166 := rfl
set_option maxRecDepth 200000 in
theorem mYc_167 : mYcP 167 := rfl
set_option maxRecDepth 200000 in
theorem mYc_168 : mYcP 168 := rfl
set_option maxRecDepth 200000 in
theorem mYc_169 : mYcP 169 := rfl
set_option maxRecDepth 200000 in
theorem mYc_170 : mYcP 170 := rfl
set_option maxRecDepth 200000 in
theorem mYc_171 : mYcP 171 := rfl
set_option maxRecDepth 200000 in
theorem mYc_172 : mYcP 172 := rfl
set_option maxRecDepth 200000 in
theorem mYc_173 : mYcP 173 := rfl
set_option maxRecDepth 200000 in
theorem mYc_174 : mYcP 174 := rfl
set_option maxRecDepth 200000 in
theorem mYc_175 : mYcP 175 := rfl
set_option maxRecDepth 200000 in
theorem mYc_176 : mYcP 176 := rfl
theorem mYcs_0 : ∀ y ∈ ([0, 1, 2, 3, 4, 5, 6, 7, 8, 9, 10, 11, 12, 13, 14, 15] : List Nat), mYcP y := List.forall_mem_cons.mpr ⟨mYc_0, List.forall_mem_cons.mpr ⟨mYc_1, List.forall_mem_cons.mpr ⟨mYc_2, List.forall_mem_cons.mpr ⟨mYc_3, List.forall_mem_cons.mpr ⟨mYc_4, List.forall_mem_cons.mpr ⟨mYc_5, List.forall_mem_cons.mpr ⟨mYc_6, List.forall_mem_cons.mpr ⟨mYc_7, List.forall_mem_cons.mpr ⟨mYc_8, List.forall_mem_cons.mpr ⟨mYc_9, List.forall_mem_cons.mpr ⟨mYc_10, List.forall_mem_cons.mpr ⟨mYc_11, List.forall_mem_cons.mpr ⟨mYc_12, List.forall_mem_cons.mpr ⟨mYc_13, List.forall_mem_cons.mpr ⟨mYc_14, List.forall_mem_cons.mpr ⟨mYc_15, fun _ h => absurd h List.not_mem_nil⟩⟩⟩⟩⟩⟩⟩⟩⟩⟩⟩⟩⟩⟩⟩⟩
theorem mYcs_1 : ∀ y ∈ ([16, 17, 18, 19, 20, 21, 22, 23, 24, 25, 26, 27, 28, 29, 30, 31] : List Nat), mYcP y := List.forall_mem_cons.mpr ⟨mYc_16, List.forall_mem_cons.mpr ⟨mYc_17, List.forall_mem_cons.mpr ⟨mYc_18, List.forall_mem_cons.mpr ⟨mYc_19, List.forall_mem_cons.mpr ⟨mYc_20, List.forall_mem_cons.mpr ⟨mYc_21, List.forall_mem_cons.mpr ⟨mYc_22, List.forall_mem_cons.mpr ⟨mYc_23, List.forall_mem_cons.mpr ⟨mYc_24, List.forall_mem_cons.mpr ⟨mYc_25, List.forall_mem_cons.mpr ⟨mYc_26, List.forall_mem_cons.mpr ⟨mYc_27, List.forall_mem_cons.mpr ⟨mYc_28, List.forall_mem_cons.mpr ⟨mYc_29, List.forall_mem_cons.mpr ⟨mYc_30, List.forall_mem_cons.mpr ⟨mYc_31, fun _ h => absurd h List.not_mem_nil⟩⟩⟩⟩⟩⟩⟩⟩⟩⟩⟩⟩⟩⟩⟩⟩
theorem mYcs_2 : ∀ y ∈ ([32, 33, 34, 35, 36, 37, 38, 39, 40, 41, 42, 43, 44, 45, 46, 47] : List Nat), mYcP y := List.forall_mem_cons.mpr ⟨mYc_32, List.forall_mem_cons.mpr ⟨mYc_33, List.forall_mem_cons.mpr ⟨mYc_34, List.forall_mem_cons.mpr ⟨mYc_35, List.forall_mem_cons.mpr ⟨mYc_36, List.forall_mem_cons.mpr ⟨mYc_37, List.forall_mem_cons.mpr ⟨mYc_38, List.forall_mem_cons.mpr ⟨mYc_39, List.forall_mem_cons.mpr ⟨mYc_40, List.forall_mem_cons.mpr ⟨mYc_41, List.forall_mem_cons.mpr ⟨mYc_42, List.forall_mem_cons.mpr ⟨mYc_43, List.forall_mem_cons.mpr ⟨mYc_44, List.forall_mem_cons.mpr ⟨mYc_45, List.forall_mem_cons.mpr ⟨mYc_46, List.forall_mem_cons.mpr ⟨mYc_47, fun _ h => absurd h List.not_mem_nil⟩⟩⟩⟩⟩⟩⟩⟩⟩⟩⟩⟩⟩⟩⟩⟩
theorem mYcs_3 : ∀ y ∈ ([48, 49, 50, 51, 52, 53, 54, 55, 56, 57, 58, 59, 60, 61, 62, 63] : List Nat), mYcP y := List.forall_mem_cons.mpr ⟨mYc_48, List.forall_mem_cons.mpr ⟨mYc_49, List.forall_mem_cons.mpr ⟨mYc_50, List.forall_mem_cons.mpr ⟨mYc_51, List.forall_mem_cons.mpr ⟨mYc_52, List.forall_mem_cons.mpr ⟨mYc_53, List.forall_mem_cons.mpr ⟨mYc_54, List.forall_mem_cons.mpr ⟨mYc_55, List.forall_mem_cons.mpr ⟨mYc_56, List.forall_mem_cons.mpr ⟨mYc_57, List.forall_mem_cons.mpr ⟨mYc_58, List.forall_mem_cons.mpr ⟨mYc_59, List.forall_mem_cons.mpr ⟨mYc_60, List.forall_mem_cons.mpr ⟨mYc_61, List.forall_mem_cons.mpr ⟨mYc_62, List.forall_mem_cons.mpr ⟨mYc_63, fun _ h => absurd h List.not_mem_nil⟩⟩⟩⟩⟩⟩⟩⟩⟩⟩⟩⟩⟩⟩⟩⟩
theorem mYcs_4 : ∀ y ∈ ([64, 65, 66, 67, 68, 69, 70, 71, 72, 73, 74, 75, 76, 77, 78, 79] : List Nat), mYcP y := List.forall_mem_cons.mpr ⟨mYc_64, List.forall_mem_cons.mpr ⟨mYc_65, List.forall_mem_cons.mpr ⟨mYc_66, List.forall_mem_cons.mpr ⟨mYc_67, List.forall_mem_cons.mpr ⟨mYc_68, List.forall_mem_cons.mpr ⟨mYc_69, List.forall_mem_cons.mpr ⟨mYc_70, List.forall_mem_cons.mpr ⟨mYc_71, List.forall_mem_cons.mpr ⟨mYc_72, List.forall_mem_cons.mpr ⟨mYc_73, List.forall_mem_cons.mpr ⟨mYc_74, List.forall_mem_cons.mpr ⟨mYc_75, List.forall_mem_cons.mpr ⟨mYc_76, List.forall_mem_cons.mpr ⟨mYc_77, List.forall_mem_cons.mpr ⟨mYc_78, List.forall_mem_cons.mpr ⟨mYc_79, fun _ h => absurd h List.not_mem_nil⟩⟩⟩⟩⟩⟩⟩⟩⟩⟩⟩⟩⟩⟩⟩⟩
theorem mYcs_5 : ∀ y ∈ ([80, 81, 82, 83, 84, 85, 86, 87, 88, 89, 90, 91, 92, 93, 94, 95] : List Nat), mYcP y := List.forall_mem_cons.mpr ⟨mYc_80, List.forall_mem_cons.mpr ⟨mYc_81, List.forall_mem_cons.mpr ⟨mYc_82, List.forall_mem_cons.mpr ⟨mYc_83, List.forall_mem_cons.mpr ⟨mYc_84, List.forall_mem_cons.mpr ⟨mYc_85, List.forall_mem_cons.mpr ⟨mYc_86, List.forall_mem_cons.mpr ⟨mYc_87, List.forall_mem_cons.mpr ⟨mYc_88, List.forall_mem_cons.mpr ⟨mYc_89, List.forall_mem_cons.mpr ⟨mYc_90, List.forall_mem_cons.mpr ⟨mYc_91, List.forall_mem_cons.mpr ⟨mYc_92, List.forall_mem_cons.mpr ⟨mYc_93, List.forall_mem_cons.mpr ⟨mYc_94, List.forall_mem_cons.mpr ⟨mYc_95, fun _ h => absurd h List.not_mem_nil⟩⟩⟩⟩⟩⟩⟩⟩⟩⟩⟩⟩⟩⟩⟩⟩
theorem mYcs_6 : ∀ y ∈ ([96, 97, 98, 99, 100, 101, 102, 103, 104, 105, 106, 107, 108, 109, 110, 111] : List Nat), mYcP y := List.forall_mem_cons.mpr ⟨mYc_96, List.forall_mem_cons.mpr ⟨mYc_97, List.forall_mem_cons.mpr ⟨mYc_98, List.forall_mem_cons.mpr ⟨mYc_99, List.forall_mem_cons.mpr ⟨mYc_100, List.forall_mem_cons.mpr ⟨mYc_101, List.forall_mem_cons.mpr ⟨mYc_102, List.forall_mem_cons.mpr ⟨mYc_103, List.forall_mem_cons.mpr ⟨mYc_104, List.forall_mem_cons.mpr ⟨mYc_105, List.forall_mem_cons.mpr ⟨mYc_106, List.forall_mem_cons.mpr ⟨mYc_107, List.forall_mem_cons.mpr ⟨mYc_108, List.forall_mem_cons.mpr ⟨mYc_109, List.forall_mem_cons.mpr ⟨mYc_110, List.forall_mem_cons.mpr ⟨mYc_111, fun _ h => absurd h List.not_mem_nil⟩⟩⟩⟩⟩⟩⟩⟩⟩⟩⟩⟩⟩⟩⟩⟩
theorem mYcs_7 : ∀ y ∈ ([112, 113, 114, 115, 116, 117, 118, 119, 120, 121, 122, 123, 124, 125, 126, 127] : List Nat), mYcP y := List.forall_mem_cons.mpr ⟨mYc_112, List.forall_mem_cons.mpr ⟨mYc_113, List.forall_mem_cons.mpr ⟨mYc_114, List.forall_mem_cons.mpr ⟨mYc_115, List.forall_mem_cons.mpr ⟨mYc_116, List.forall_mem_cons.mpr ⟨mYc_117, List.forall_mem_cons.mpr ⟨mYc_118, List.forall_mem_cons.mpr ⟨mYc_119, List.forall_mem_cons.mpr ⟨mYc_120, List.forall_mem_cons.mpr ⟨mYc_121, List.forall_mem_cons.mpr ⟨mYc_122, List.forall_mem_cons.mpr ⟨mYc_123, List.forall_mem_cons.mpr ⟨mYc_124, List.forall_mem_cons.mpr ⟨mYc_125, List.forall_mem_cons.mpr ⟨mYc_126, List.forall_mem_cons.mpr ⟨mYc_127, fun _ h => absurd h List.not_mem_nil⟩⟩⟩⟩⟩⟩⟩⟩⟩⟩⟩⟩⟩⟩⟩⟩
theorem mYcs_8 : ∀ y ∈ ([128, 129, 130, 131, 132, 133, 134, 135, 136, 137, 138, 139, 140, 141, 142, 143] : List Nat), mYcP y := List.forall_mem_cons.mpr ⟨mYc_128, List.forall_mem_cons.mpr ⟨mYc_129, List.forall_mem_cons.mpr ⟨mYc_130, List.forall_mem_cons.mpr ⟨mYc_131, List.forall_mem_cons.mpr ⟨mYc_132, List.forall_mem_cons.mpr ⟨mYc_133, List.forall_mem_cons.mpr ⟨mYc_134, List.forall_mem_cons.mpr ⟨mYc_135, List.forall_mem_cons.mpr ⟨mYc_136, List.forall_mem_cons.mpr ⟨mYc_137, List.forall_mem_cons.mpr ⟨mYc_138, List.forall_mem_cons.mpr ⟨mYc_139, List.forall_mem_cons.mpr ⟨mYc_140, List.forall_mem_cons.mpr ⟨mYc_141, List.forall_mem_cons.mpr ⟨mYc_142, List.forall_mem_cons.mpr ⟨mYc_143, fun _ h => absurd h List.not_mem_nil⟩⟩⟩⟩⟩⟩⟩⟩⟩⟩⟩⟩⟩⟩⟩⟩
theorem mYcs_9 : ∀ y ∈ ([144, 145, 146, 147, 148, 149, 150, 151, 152, 153, 154, 155, 156, 157, 158, 159] : List Nat), mYcP y := List.forall_mem_cons.mpr ⟨mYc_144, List.forall_mem_cons.mpr ⟨mYc_145, List.forall_mem_cons.mpr ⟨mYc_146, List.forall_mem_cons.mpr ⟨mYc_147, List.forall_mem_cons.mpr ⟨mYc_148, List.forall_mem_cons.mpr ⟨mYc_149, List.forall_mem_cons.mpr ⟨mYc_150, List.forall_mem_cons.mpr ⟨mYc_151, List.forall_mem_cons.mpr ⟨mYc_152, List.forall_mem_cons.mpr ⟨mYc_153, List.forall_mem_cons.mpr ⟨mYc_154, List.forall_mem_cons.mpr ⟨mYc_155, List.forall_mem_cons.mpr ⟨mYc_156, List.forall_mem_cons.mpr ⟨mYc_157, List.forall_mem_cons.mpr ⟨mYc_158, List.forall_mem_cons.mpr ⟨mYc_159, fun _ h => absurd h List.not_mem_nil⟩⟩⟩⟩⟩⟩⟩⟩⟩⟩⟩⟩⟩⟩⟩⟩
theorem mYcs_10 : ∀ y ∈ ([160, 161, 162, 163, 164, 165, 166, 167, 168, 169, 170, 171, 172, 173, 174, 175] : List Nat), mYcP y := List.forall_mem_cons.mpr ⟨mYc_160, List.forall_mem_cons.mpr ⟨mYc_161, List.forall_mem_cons.mpr ⟨mYc_162, List.forall_mem_cons.mpr ⟨mYc_163, List.forall_mem_cons.mpr ⟨mYc_164, List.forall_mem_cons.mpr ⟨mYc_165, List.forall_mem_cons.mpr ⟨mYc_166, List.forall_mem_cons.mpr ⟨mYc_167, List.forall_mem_cons.mpr ⟨mYc_168, List.forall_mem_cons.mpr ⟨mYc_169, List.forall_mem_cons.mpr ⟨mYc_170, List.forall_mem_cons.mpr ⟨mYc_171, List.forall_mem_cons.mpr ⟨mYc_172, List.forall_mem_cons.mpr ⟨mYc_173, List.forall_mem_cons.mpr ⟨mYc_174, List.forall_mem_cons.mpr ⟨mYc_175, fun _ h => absurd h List.not_mem_nil⟩⟩⟩⟩⟩⟩⟩⟩⟩⟩⟩⟩⟩⟩⟩⟩
theorem mYcs_11 : ∀ y ∈ ([176] : List Nat), mYcP y := List.forall_mem_cons.mpr ⟨mYc_176, fun _ h => absurd h List.not_mem_nil⟩
def mYcL : List Nat := [0, 1, 2, 3, 4, 5, 6, 7, 8, 9, 10, 11, 12, 13, 14, 15] ++ [16, 17, 18, 19, 20, 21, 22, 23, 24, 25, 26, 27, 28, 29, 30, 31] ++ [32, 33, 34, 35, 36, 37, 38, 39, 40, 41, 42, 43, 44, 45, 46, 47] ++ [48, 49, 50, 51, 52, 53, 54, 55, 56, 57, 58, 59, 60, 61, 62, 63] ++ [64, 65, 66, 67, 68, 69, 70, 71, 72, 73, 74, 75, 76, 77, 78, 79] ++ [80, 81, 82, 83, 84, 85, 86, 87, 88, 89, 90, 91, 92, 93, 94, 95] ++ [96, 97, 98, 99, 100, 101, 102, 103, 104, 105, 106, 107, 108, 109, 110, 111] ++ [112, 113, 114, 115, 116, 117, 118, 119, 120, 121, 122, 123, 124, 125, 126, 127] ++ [128, 129, 130, 131, 132, 133, 134, 135, 136, 137, 138, 139, 140, 141, 142, 143] ++ [144, 145, 146, 147, 148, 149, 150, 151, 152, 153, 154, 155, 156, 157, 158, 159] ++ [160, 161, 162, 163, 164, 165, 166, 167, 168, 169, 170, 171, 172, 173, 174, 175] ++ [176]
theorem mYc_all : ∀ y ∈ mYcL, mYcP y := by
  intro y hy
  unfold mYcL at hy
  simp only [List.mem_append] at hy
  rcases hy with ((((((((((hy | hy) | hy) | hy) | hy) | hy) | hy) | hy) | hy) | hy) | hy) | hy
  · exact mYcs_0 y hy
  · exact mYcs_1 y hy
  · exact mYcs_2 y hy
  · exact mYcs_3 y hy
  · exact mYcs_4 y hy
  · exact mYcs_5 y hy
  · exact mYcs_6 y hy
  · exact mYcs_7 y hy
  · exact mYcs_8 y hy
  · exact mYcs_9 y hy
  · exact mYcs_10 y hy
  · exact mYcs_11 y hy
theorem mYcL_ok : (List.range mCount).all (fun y => decide ((mNm y).cls = "CarryAlikeLaw") || decide (y ∈ mYcL)) = true := by decide +kernel
def mNchk (o : Nat) (e : Nat × Nat) : Bool := decide (lw_tbl[mPriv + e.2]? = some (.methodLink (mCn o) e.1 Lib.objectInit))
theorem mN_ok : (List.range mOwnN).all (fun o => (mOq o).all (mNchk o)) = true := by decide +kernel
def mAcchk (o : Nat) (e : Nat × Nat) : Bool := decide (lw_tbl[mPriv + e.2]? = some (.methodLink (mCn o) e.1 arraycopyName))
theorem mAc_ok : (List.range mOwnN).all (fun o => (mNq o).all (mAcchk o)) = true := by decide +kernel
theorem mAc_w : lw_tbl[mAcL.getD 0 0]? = some (.native arraycopyName) ∧ lw_tbl[mAcL.getD 1 0]? = some (.static arraycopyName) ∧ lw_tbl[mAcL.getD 2 0]? = some (.initialized "java/lang/System") := by decide +kernel
theorem mOb_w : lw_tbl[mObL.getD 0 0]? = some (.code Lib.objectInit ⟨#[0xb1]⟩ 1 none) ∧ lw_tbl[mObL.getD 1 0]? = some (.instanceMethod Lib.objectInit) := by decide +kernel
def mXchk (o : Nat) (e : Nat × Nat × Bool) : Bool := decide (lw_tbl[mPriv + e.2.1]? = some (.methodLink (mCn o) e.1 (if e.2.2 then Lib.Math.max.name else Lib.Math.min.name)))
theorem mX_ok : (List.range mOwnN).all (fun o => (mXq o).all (mXchk o)) = true := by decide +kernel
theorem mMa_w : lw_tbl[mMaL.getD 0 0]? = some (.static Lib.Math.min.name) ∧ lw_tbl[mMaL.getD 2 0]? = some (.static Lib.Math.max.name) ∧ lw_tbl[mMaL.getD 4 0]? = some (.initialized "java/lang/Math") := by decide +kernel
set_option maxRecDepth 200000 in
theorem mMa_min : lw_tbl[mMaL.getD 1 0]? = some (.code Lib.Math.min.name Lib.Math.min.code 2 (some .int)) := by decide +kernel
set_option maxRecDepth 200000 in
theorem mMa_max : lw_tbl[mMaL.getD 3 0]? = some (.code Lib.Math.max.name Lib.Math.max.code 2 (some .int)) := by decide +kernel
def mCchk (o : Nat) (e : Nat × Nat) : Bool := match vwCl[e.2]?, lk (mCq o) e.1 with
  | some r, some q => decide (lw_tbl[mPriv + q]? = some (.classLink (mCn o) e.1 r.1))
  | _, _ => false
theorem mC_ok : (List.range mOwnN).all (fun o => (mCt o).all (mCchk o)) = true := by decide +kernel
def mAchk (o : Nat) (e : Nat × Nat) : Bool := decide (lw_tbl[mPriv + e.2]? = some (.classLink (mCn o) e.1 "CarryAlike$Walker"))
theorem mA_ok : (List.range mOwnN).all (fun o => (mAq o).all (mAchk o)) = true := by decide +kernel
def mKchk (o : Nat) (e : Nat × (Int32 ⊕ Int64)) : Bool := match lk (mKq o) e.1 with
  | some q => decide (lw_tbl[mPriv + q]? = some (match e.2 with | .inl v => .constant (mCn o) e.1 v | .inr v => .constantLong (mCn o) e.1 v))
  | none => false
theorem mK_ok : (List.range mOwnN).all (fun o => (mKt o).all (mKchk o)) = true := by decide +kernel
def mLchk (ci : Nat) (r : vw_C) : Bool := match mCpL[ci]? with
  | some q => decide (lw_tbl[q.1]? = some (.instantiable r.1 r.2.2)) && decide (lw_tbl[q.2.1]? = some (.initialized r.1)) && (List.range r.2.2).all (fun k => decide (lw_tbl[q.2.2.getD k 0]? = some (u_lay r.1 r.2.1 k)) && (parseFieldDescriptor (r.2.1 k).2.2.1).isSome && (List.range r.2.2).all (fun j => decide (j = k) || decide ((r.2.1 j).2.1 ≠ (r.2.1 k).2.1))) && decide (mCn ci = r.1)
  | none => false
set_option maxRecDepth 100000 in
theorem mL_ok : (List.range vwCl.length).all (fun ci => match vwCl[ci]? with | some r => mLchk ci r | none => false) = true := by decide +kernel
theorem mAr_w : lw_tbl[mArL.getD 0 0]? = some (.arrayClass .int) ∧ lw_tbl[mArL.getD 1 0]? = some (.arrayClass .boolean) ∧ lw_tbl[mArL.getD 2 0]? = some (.arrayClass .char) ∧ lw_tbl[mArL.getD 3 0]? = some (.arrayClass .byte) ∧ lw_tbl[mArL.getD 4 0]? = some (.arrayOver (.object "CarryAlike$Walker")) := by decide +kernel
theorem mLens : (mFt 14, mMt 14) = ([], []) := by decide +kernel
