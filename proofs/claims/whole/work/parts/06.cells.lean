/-! what each cell of the world holds, by its number -/
theorem uc_0 (E : uE) (M : uM) : uCell E M 0 = .inr (6, [.ref (E.2.1 1), .ref (E.2.1 79), .int (M.1 0 2), .ref (E.2.1 235), .ref (E.2.1 240), .ref (E.2.1 242)]) := rfl
theorem us_0_2 (E : uE) (M : uM) (x : Int32) : (.inr (6, List.set [.ref (E.2.1 1), .ref (E.2.1 79), .int (M.1 0 2), .ref (E.2.1 235), .ref (E.2.1 240), .ref (E.2.1 242)] 2 (.int x)) : va_E) = uCell E (uSet M 0 2 x) 0 := rfl
theorem uc_1 (E : uE) (M : uM) : uCell E M 1 = .inr (1, [.int (M.1 1 0), .ref (E.2.1 2), .ref (E.2.1 3), .ref (E.2.1 4), .int (M.1 1 4), .ref (E.2.1 5), .int (M.1 1 6), .int (M.1 1 7), .ref (E.2.1 7), .ref (E.2.1 6), .int (M.1 1 10)]) := rfl
theorem us_1_0 (E : uE) (M : uM) (x : Int32) : (.inr (1, List.set [.int (M.1 1 0), .ref (E.2.1 2), .ref (E.2.1 3), .ref (E.2.1 4), .int (M.1 1 4), .ref (E.2.1 5), .int (M.1 1 6), .int (M.1 1 7), .ref (E.2.1 7), .ref (E.2.1 6), .int (M.1 1 10)] 0 (.int x)) : va_E) = uCell E (uSet M 1 0 x) 1 := rfl
theorem us_1_4 (E : uE) (M : uM) (x : Int32) : (.inr (1, List.set [.int (M.1 1 0), .ref (E.2.1 2), .ref (E.2.1 3), .ref (E.2.1 4), .int (M.1 1 4), .ref (E.2.1 5), .int (M.1 1 6), .int (M.1 1 7), .ref (E.2.1 7), .ref (E.2.1 6), .int (M.1 1 10)] 4 (.int x)) : va_E) = uCell E (uSet M 1 4 x) 1 := rfl
theorem us_1_6 (E : uE) (M : uM) (x : Int32) : (.inr (1, List.set [.int (M.1 1 0), .ref (E.2.1 2), .ref (E.2.1 3), .ref (E.2.1 4), .int (M.1 1 4), .ref (E.2.1 5), .int (M.1 1 6), .int (M.1 1 7), .ref (E.2.1 7), .ref (E.2.1 6), .int (M.1 1 10)] 6 (.int x)) : va_E) = uCell E (uSet M 1 6 x) 1 := rfl
theorem us_1_7 (E : uE) (M : uM) (x : Int32) : (.inr (1, List.set [.int (M.1 1 0), .ref (E.2.1 2), .ref (E.2.1 3), .ref (E.2.1 4), .int (M.1 1 4), .ref (E.2.1 5), .int (M.1 1 6), .int (M.1 1 7), .ref (E.2.1 7), .ref (E.2.1 6), .int (M.1 1 10)] 7 (.int x)) : va_E) = uCell E (uSet M 1 7 x) 1 := rfl
theorem us_1_10 (E : uE) (M : uM) (x : Int32) : (.inr (1, List.set [.int (M.1 1 0), .ref (E.2.1 2), .ref (E.2.1 3), .ref (E.2.1 4), .int (M.1 1 4), .ref (E.2.1 5), .int (M.1 1 6), .int (M.1 1 7), .ref (E.2.1 7), .ref (E.2.1 6), .int (M.1 1 10)] 10 (.int x)) : va_E) = uCell E (uSet M 1 10 x) 1 := rfl
theorem uc_2 (E : uE) (M : uM) : uCell E M 2 = .inl (E.2.2 0, 6, .inl (M.1 2)) := rfl
theorem uc_3 (E : uE) (M : uM) : uCell E M 3 = .inl (E.2.2 0, 6, .inl (M.1 3)) := rfl
theorem uc_4 (E : uE) (M : uM) : uCell E M 4 = .inl (E.2.2 0, 36, .inl (M.1 4)) := rfl
theorem uc_5 (E : uE) (M : uM) : uCell E M 5 = .inl (E.2.2 0, 6, .inl (M.1 5)) := rfl
theorem uc_6 (E : uE) (M : uM) : uCell E M 6 = .inl (E.2.2 3, 8, .inr (.inr (.inr (.inr (fun i => some (E.2.1 (M.2.2 6 i))))))) := rfl
theorem uc_7 (E : uE) (M : uM) : uCell E M 7 = .inr (3, [.ref (E.2.1 8), .ref (E.2.1 9), .ref (E.2.1 10), .ref (E.2.1 11), .int (M.1 7 4), .int (M.1 7 5)]) := rfl
theorem us_7_4 (E : uE) (M : uM) (x : Int32) : (.inr (3, List.set [.ref (E.2.1 8), .ref (E.2.1 9), .ref (E.2.1 10), .ref (E.2.1 11), .int (M.1 7 4), .int (M.1 7 5)] 4 (.int x)) : va_E) = uCell E (uSet M 7 4 x) 7 := rfl
theorem us_7_5 (E : uE) (M : uM) (x : Int32) : (.inr (3, List.set [.ref (E.2.1 8), .ref (E.2.1 9), .ref (E.2.1 10), .ref (E.2.1 11), .int (M.1 7 4), .int (M.1 7 5)] 5 (.int x)) : va_E) = uCell E (uSet M 7 5 x) 7 := rfl
theorem uc_8 (E : uE) (M : uM) : uCell E M 8 = .inl (E.2.2 0, 6, .inl (M.1 8)) := rfl
theorem uc_9 (E : uE) (M : uM) : uCell E M 9 = .inl (E.2.2 0, 6, .inl (M.1 9)) := rfl
theorem uc_10 (E : uE) (M : uM) : uCell E M 10 = .inl (E.2.2 0, 6, .inl (M.1 10)) := rfl
theorem uc_11 (E : uE) (M : uM) : uCell E M 11 = .inr (0, [.int (M.1 11 0), .ref (E.2.1 12), .ref (E.2.1 13), .ref (E.2.1 14)]) := rfl
theorem us_11_0 (E : uE) (M : uM) (x : Int32) : (.inr (0, List.set [.int (M.1 11 0), .ref (E.2.1 12), .ref (E.2.1 13), .ref (E.2.1 14)] 0 (.int x)) : va_E) = uCell E (uSet M 11 0 x) 11 := rfl
theorem uc_12 (E : uE) (M : uM) : uCell E M 12 = .inl (E.2.2 0, 12, .inl (M.1 12)) := rfl
theorem uc_13 (E : uE) (M : uM) : uCell E M 13 = .inl (E.2.2 0, 12, .inl (M.1 13)) := rfl
theorem uc_14 (E : uE) (M : uM) : uCell E M 14 = .inl (E.2.2 0, 12, .inl (M.1 14)) := rfl
theorem uc_79 (E : uE) (M : uM) : uCell E M 79 = .inr (1, [.int (M.1 79 0), .ref (E.2.1 80), .ref (E.2.1 81), .ref (E.2.1 82), .int (M.1 79 4), .ref (E.2.1 83), .int (M.1 79 6), .int (M.1 79 7), .ref (E.2.1 85), .ref (E.2.1 84), .int (M.1 79 10)]) := rfl
theorem us_79_0 (E : uE) (M : uM) (x : Int32) : (.inr (1, List.set [.int (M.1 79 0), .ref (E.2.1 80), .ref (E.2.1 81), .ref (E.2.1 82), .int (M.1 79 4), .ref (E.2.1 83), .int (M.1 79 6), .int (M.1 79 7), .ref (E.2.1 85), .ref (E.2.1 84), .int (M.1 79 10)] 0 (.int x)) : va_E) = uCell E (uSet M 79 0 x) 79 := rfl
theorem us_79_4 (E : uE) (M : uM) (x : Int32) : (.inr (1, List.set [.int (M.1 79 0), .ref (E.2.1 80), .ref (E.2.1 81), .ref (E.2.1 82), .int (M.1 79 4), .ref (E.2.1 83), .int (M.1 79 6), .int (M.1 79 7), .ref (E.2.1 85), .ref (E.2.1 84), .int (M.1 79 10)] 4 (.int x)) : va_E) = uCell E (uSet M 79 4 x) 79 := rfl
theorem us_79_6 (E : uE) (M : uM) (x : Int32) : (.inr (1, List.set [.int (M.1 79 0), .ref (E.2.1 80), .ref (E.2.1 81), .ref (E.2.1 82), .int (M.1 79 4), .ref (E.2.1 83), .int (M.1 79 6), .int (M.1 79 7), .ref (E.2.1 85), .ref (E.2.1 84), .int (M.1 79 10)] 6 (.int x)) : va_E) = uCell E (uSet M 79 6 x) 79 := rfl
theorem us_79_7 (E : uE) (M : uM) (x : Int32) : (.inr (1, List.set [.int (M.1 79 0), .ref (E.2.1 80), .ref (E.2.1 81), .ref (E.2.1 82), .int (M.1 79 4), .ref (E.2.1 83), .int (M.1 79 6), .int (M.1 79 7), .ref (E.2.1 85), .ref (E.2.1 84), .int (M.1 79 10)] 7 (.int x)) : va_E) = uCell E (uSet M 79 7 x) 79 := rfl
theorem us_79_10 (E : uE) (M : uM) (x : Int32) : (.inr (1, List.set [.int (M.1 79 0), .ref (E.2.1 80), .ref (E.2.1 81), .ref (E.2.1 82), .int (M.1 79 4), .ref (E.2.1 83), .int (M.1 79 6), .int (M.1 79 7), .ref (E.2.1 85), .ref (E.2.1 84), .int (M.1 79 10)] 10 (.int x)) : va_E) = uCell E (uSet M 79 10 x) 79 := rfl
theorem uc_80 (E : uE) (M : uM) : uCell E M 80 = .inl (E.2.2 0, 6, .inl (M.1 80)) := rfl
theorem uc_81 (E : uE) (M : uM) : uCell E M 81 = .inl (E.2.2 0, 6, .inl (M.1 81)) := rfl
theorem uc_82 (E : uE) (M : uM) : uCell E M 82 = .inl (E.2.2 0, 36, .inl (M.1 82)) := rfl
theorem uc_83 (E : uE) (M : uM) : uCell E M 83 = .inl (E.2.2 0, 6, .inl (M.1 83)) := rfl
theorem uc_84 (E : uE) (M : uM) : uCell E M 84 = .inl (E.2.2 3, 8, .inr (.inr (.inr (.inr (fun i => some (E.2.1 (M.2.2 84 i))))))) := rfl
theorem uc_85 (E : uE) (M : uM) : uCell E M 85 = .inr (3, [.ref (E.2.1 86), .ref (E.2.1 87), .ref (E.2.1 88), .ref (E.2.1 89), .int (M.1 85 4), .int (M.1 85 5)]) := rfl
theorem us_85_4 (E : uE) (M : uM) (x : Int32) : (.inr (3, List.set [.ref (E.2.1 86), .ref (E.2.1 87), .ref (E.2.1 88), .ref (E.2.1 89), .int (M.1 85 4), .int (M.1 85 5)] 4 (.int x)) : va_E) = uCell E (uSet M 85 4 x) 85 := rfl
theorem us_85_5 (E : uE) (M : uM) (x : Int32) : (.inr (3, List.set [.ref (E.2.1 86), .ref (E.2.1 87), .ref (E.2.1 88), .ref (E.2.1 89), .int (M.1 85 4), .int (M.1 85 5)] 5 (.int x)) : va_E) = uCell E (uSet M 85 5 x) 85 := rfl
theorem uc_86 (E : uE) (M : uM) : uCell E M 86 = .inl (E.2.2 0, 6, .inl (M.1 86)) := rfl
theorem uc_87 (E : uE) (M : uM) : uCell E M 87 = .inl (E.2.2 0, 6, .inl (M.1 87)) := rfl
theorem uc_88 (E : uE) (M : uM) : uCell E M 88 = .inl (E.2.2 0, 6, .inl (M.1 88)) := rfl
theorem uc_89 (E : uE) (M : uM) : uCell E M 89 = .inr (0, [.int (M.1 89 0), .ref (E.2.1 90), .ref (E.2.1 91), .ref (E.2.1 92)]) := rfl
theorem us_89_0 (E : uE) (M : uM) (x : Int32) : (.inr (0, List.set [.int (M.1 89 0), .ref (E.2.1 90), .ref (E.2.1 91), .ref (E.2.1 92)] 0 (.int x)) : va_E) = uCell E (uSet M 89 0 x) 89 := rfl
theorem uc_90 (E : uE) (M : uM) : uCell E M 90 = .inl (E.2.2 0, 12, .inl (M.1 90)) := rfl
theorem uc_91 (E : uE) (M : uM) : uCell E M 91 = .inl (E.2.2 0, 12, .inl (M.1 91)) := rfl
theorem uc_92 (E : uE) (M : uM) : uCell E M 92 = .inl (E.2.2 0, 12, .inl (M.1 92)) := rfl
theorem uc_93 (E : uE) (M : uM) : uCell E M 93 = .inr (3, [.ref (E.2.1 94), .ref (E.2.1 95), .ref (E.2.1 96), .ref (E.2.1 97), .int (M.1 93 4), .int (M.1 93 5)]) := rfl
theorem us_93_4 (E : uE) (M : uM) (x : Int32) : (.inr (3, List.set [.ref (E.2.1 94), .ref (E.2.1 95), .ref (E.2.1 96), .ref (E.2.1 97), .int (M.1 93 4), .int (M.1 93 5)] 4 (.int x)) : va_E) = uCell E (uSet M 93 4 x) 93 := rfl
theorem us_93_5 (E : uE) (M : uM) (x : Int32) : (.inr (3, List.set [.ref (E.2.1 94), .ref (E.2.1 95), .ref (E.2.1 96), .ref (E.2.1 97), .int (M.1 93 4), .int (M.1 93 5)] 5 (.int x)) : va_E) = uCell E (uSet M 93 5 x) 93 := rfl
theorem uc_157 (E : uE) (M : uM) : uCell E M 157 = .inr (1, [.int (M.1 157 0), .ref (E.2.1 158), .ref (E.2.1 159), .ref (E.2.1 160), .int (M.1 157 4), .ref (E.2.1 161), .int (M.1 157 6), .int (M.1 157 7), .ref (E.2.1 163), .ref (E.2.1 162), .int (M.1 157 10)]) := rfl
theorem us_157_0 (E : uE) (M : uM) (x : Int32) : (.inr (1, List.set [.int (M.1 157 0), .ref (E.2.1 158), .ref (E.2.1 159), .ref (E.2.1 160), .int (M.1 157 4), .ref (E.2.1 161), .int (M.1 157 6), .int (M.1 157 7), .ref (E.2.1 163), .ref (E.2.1 162), .int (M.1 157 10)] 0 (.int x)) : va_E) = uCell E (uSet M 157 0 x) 157 := rfl
theorem us_157_4 (E : uE) (M : uM) (x : Int32) : (.inr (1, List.set [.int (M.1 157 0), .ref (E.2.1 158), .ref (E.2.1 159), .ref (E.2.1 160), .int (M.1 157 4), .ref (E.2.1 161), .int (M.1 157 6), .int (M.1 157 7), .ref (E.2.1 163), .ref (E.2.1 162), .int (M.1 157 10)] 4 (.int x)) : va_E) = uCell E (uSet M 157 4 x) 157 := rfl
theorem us_157_6 (E : uE) (M : uM) (x : Int32) : (.inr (1, List.set [.int (M.1 157 0), .ref (E.2.1 158), .ref (E.2.1 159), .ref (E.2.1 160), .int (M.1 157 4), .ref (E.2.1 161), .int (M.1 157 6), .int (M.1 157 7), .ref (E.2.1 163), .ref (E.2.1 162), .int (M.1 157 10)] 6 (.int x)) : va_E) = uCell E (uSet M 157 6 x) 157 := rfl
theorem us_157_7 (E : uE) (M : uM) (x : Int32) : (.inr (1, List.set [.int (M.1 157 0), .ref (E.2.1 158), .ref (E.2.1 159), .ref (E.2.1 160), .int (M.1 157 4), .ref (E.2.1 161), .int (M.1 157 6), .int (M.1 157 7), .ref (E.2.1 163), .ref (E.2.1 162), .int (M.1 157 10)] 7 (.int x)) : va_E) = uCell E (uSet M 157 7 x) 157 := rfl
theorem us_157_10 (E : uE) (M : uM) (x : Int32) : (.inr (1, List.set [.int (M.1 157 0), .ref (E.2.1 158), .ref (E.2.1 159), .ref (E.2.1 160), .int (M.1 157 4), .ref (E.2.1 161), .int (M.1 157 6), .int (M.1 157 7), .ref (E.2.1 163), .ref (E.2.1 162), .int (M.1 157 10)] 10 (.int x)) : va_E) = uCell E (uSet M 157 10 x) 157 := rfl
theorem uc_158 (E : uE) (M : uM) : uCell E M 158 = .inl (E.2.2 0, 6, .inl (M.1 158)) := rfl
theorem uc_159 (E : uE) (M : uM) : uCell E M 159 = .inl (E.2.2 0, 6, .inl (M.1 159)) := rfl
theorem uc_160 (E : uE) (M : uM) : uCell E M 160 = .inl (E.2.2 0, 36, .inl (M.1 160)) := rfl
theorem uc_161 (E : uE) (M : uM) : uCell E M 161 = .inl (E.2.2 0, 6, .inl (M.1 161)) := rfl
theorem uc_162 (E : uE) (M : uM) : uCell E M 162 = .inl (E.2.2 3, 8, .inr (.inr (.inr (.inr (fun i => some (E.2.1 (M.2.2 162 i))))))) := rfl
theorem uc_163 (E : uE) (M : uM) : uCell E M 163 = .inr (3, [.ref (E.2.1 164), .ref (E.2.1 165), .ref (E.2.1 166), .ref (E.2.1 167), .int (M.1 163 4), .int (M.1 163 5)]) := rfl
theorem us_163_4 (E : uE) (M : uM) (x : Int32) : (.inr (3, List.set [.ref (E.2.1 164), .ref (E.2.1 165), .ref (E.2.1 166), .ref (E.2.1 167), .int (M.1 163 4), .int (M.1 163 5)] 4 (.int x)) : va_E) = uCell E (uSet M 163 4 x) 163 := rfl
theorem us_163_5 (E : uE) (M : uM) (x : Int32) : (.inr (3, List.set [.ref (E.2.1 164), .ref (E.2.1 165), .ref (E.2.1 166), .ref (E.2.1 167), .int (M.1 163 4), .int (M.1 163 5)] 5 (.int x)) : va_E) = uCell E (uSet M 163 5 x) 163 := rfl
theorem uc_164 (E : uE) (M : uM) : uCell E M 164 = .inl (E.2.2 0, 6, .inl (M.1 164)) := rfl
theorem uc_165 (E : uE) (M : uM) : uCell E M 165 = .inl (E.2.2 0, 6, .inl (M.1 165)) := rfl
theorem uc_166 (E : uE) (M : uM) : uCell E M 166 = .inl (E.2.2 0, 6, .inl (M.1 166)) := rfl
theorem uc_167 (E : uE) (M : uM) : uCell E M 167 = .inr (0, [.int (M.1 167 0), .ref (E.2.1 168), .ref (E.2.1 169), .ref (E.2.1 170)]) := rfl
theorem us_167_0 (E : uE) (M : uM) (x : Int32) : (.inr (0, List.set [.int (M.1 167 0), .ref (E.2.1 168), .ref (E.2.1 169), .ref (E.2.1 170)] 0 (.int x)) : va_E) = uCell E (uSet M 167 0 x) 167 := rfl
theorem uc_168 (E : uE) (M : uM) : uCell E M 168 = .inl (E.2.2 0, 12, .inl (M.1 168)) := rfl
theorem uc_169 (E : uE) (M : uM) : uCell E M 169 = .inl (E.2.2 0, 12, .inl (M.1 169)) := rfl
theorem uc_170 (E : uE) (M : uM) : uCell E M 170 = .inl (E.2.2 0, 12, .inl (M.1 170)) := rfl
theorem uc_171 (E : uE) (M : uM) : uCell E M 171 = .inr (3, [.ref (E.2.1 172), .ref (E.2.1 173), .ref (E.2.1 174), .ref (E.2.1 175), .int (M.1 171 4), .int (M.1 171 5)]) := rfl
theorem us_171_4 (E : uE) (M : uM) (x : Int32) : (.inr (3, List.set [.ref (E.2.1 172), .ref (E.2.1 173), .ref (E.2.1 174), .ref (E.2.1 175), .int (M.1 171 4), .int (M.1 171 5)] 4 (.int x)) : va_E) = uCell E (uSet M 171 4 x) 171 := rfl
theorem us_171_5 (E : uE) (M : uM) (x : Int32) : (.inr (3, List.set [.ref (E.2.1 172), .ref (E.2.1 173), .ref (E.2.1 174), .ref (E.2.1 175), .int (M.1 171 4), .int (M.1 171 5)] 5 (.int x)) : va_E) = uCell E (uSet M 171 5 x) 171 := rfl
theorem uc_235 (E : uE) (M : uM) : uCell E M 235 = .inr (2, [.ref (E.2.1 1), .ref (E.2.1 236), .ref (E.2.1 237), .ref (E.2.1 238), .ref (E.2.1 239)]) := rfl
theorem uc_236 (E : uE) (M : uM) : uCell E M 236 = .inl (E.2.2 0, 36, .inl (M.1 236)) := rfl
theorem uc_237 (E : uE) (M : uM) : uCell E M 237 = .inl (E.2.2 0, 64, .inl (M.1 237)) := rfl
theorem uc_238 (E : uE) (M : uM) : uCell E M 238 = .inl (E.2.2 0, 36, .inl (M.1 238)) := rfl
theorem uc_239 (E : uE) (M : uM) : uCell E M 239 = .inl (E.2.2 1, 6, .inr (.inl (M.2.1 239))) := rfl
theorem uc_240 (E : uE) (M : uM) : uCell E M 240 = .inr (5, [.ref (E.2.1 241), .int (M.1 240 1), .int (M.1 240 2), .ref (E.2.1 157)]) := rfl
theorem us_240_1 (E : uE) (M : uM) (x : Int32) : (.inr (5, List.set [.ref (E.2.1 241), .int (M.1 240 1), .int (M.1 240 2), .ref (E.2.1 157)] 1 (.int x)) : va_E) = uCell E (uSet M 240 1 x) 240 := rfl
theorem us_240_2 (E : uE) (M : uM) (x : Int32) : (.inr (5, List.set [.ref (E.2.1 241), .int (M.1 240 1), .int (M.1 240 2), .ref (E.2.1 157)] 2 (.int x)) : va_E) = uCell E (uSet M 240 2 x) 240 := rfl
theorem uc_241 (E : uE) (M : uM) : uCell E M 241 = .inl (E.2.2 2, 90, .inl (M.1 241)) := rfl
theorem uc_242 (E : uE) (M : uM) : uCell E M 242 = .inl (E.2.2 4, 4, .inr (.inr (.inr (.inr (fun i => some (E.2.1 (243 + 2 * i))))))) := rfl
theorem uc_251 (E : uE) (M : uM) : uCell E M 251 = .inr (7, [.ref (E.2.1 252), .ref (E.2.1 253), .int (M.1 251 2), .int (M.1 251 3), .int (M.1 251 4), .ref (E.2.1 254), .ref (E.2.1 255), .ref (E.2.1 256), .int (M.1 251 8), .ref (E.2.1 257), .ref (E.2.1 258), .int (M.1 251 11), .int (M.1 251 12), .ref (E.2.1 259), .ref (E.2.1 260), .ref (E.2.1 261), .ref (E.2.1 262)]) := rfl
theorem us_251_2 (E : uE) (M : uM) (x : Int32) : (.inr (7, List.set [.ref (E.2.1 252), .ref (E.2.1 253), .int (M.1 251 2), .int (M.1 251 3), .int (M.1 251 4), .ref (E.2.1 254), .ref (E.2.1 255), .ref (E.2.1 256), .int (M.1 251 8), .ref (E.2.1 257), .ref (E.2.1 258), .int (M.1 251 11), .int (M.1 251 12), .ref (E.2.1 259), .ref (E.2.1 260), .ref (E.2.1 261), .ref (E.2.1 262)] 2 (.int x)) : va_E) = uCell E (uSet M 251 2 x) 251 := rfl
theorem us_251_3 (E : uE) (M : uM) (x : Int32) : (.inr (7, List.set [.ref (E.2.1 252), .ref (E.2.1 253), .int (M.1 251 2), .int (M.1 251 3), .int (M.1 251 4), .ref (E.2.1 254), .ref (E.2.1 255), .ref (E.2.1 256), .int (M.1 251 8), .ref (E.2.1 257), .ref (E.2.1 258), .int (M.1 251 11), .int (M.1 251 12), .ref (E.2.1 259), .ref (E.2.1 260), .ref (E.2.1 261), .ref (E.2.1 262)] 3 (.int x)) : va_E) = uCell E (uSet M 251 3 x) 251 := rfl
theorem us_251_4 (E : uE) (M : uM) (x : Int32) : (.inr (7, List.set [.ref (E.2.1 252), .ref (E.2.1 253), .int (M.1 251 2), .int (M.1 251 3), .int (M.1 251 4), .ref (E.2.1 254), .ref (E.2.1 255), .ref (E.2.1 256), .int (M.1 251 8), .ref (E.2.1 257), .ref (E.2.1 258), .int (M.1 251 11), .int (M.1 251 12), .ref (E.2.1 259), .ref (E.2.1 260), .ref (E.2.1 261), .ref (E.2.1 262)] 4 (.int x)) : va_E) = uCell E (uSet M 251 4 x) 251 := rfl
theorem us_251_8 (E : uE) (M : uM) (x : Int32) : (.inr (7, List.set [.ref (E.2.1 252), .ref (E.2.1 253), .int (M.1 251 2), .int (M.1 251 3), .int (M.1 251 4), .ref (E.2.1 254), .ref (E.2.1 255), .ref (E.2.1 256), .int (M.1 251 8), .ref (E.2.1 257), .ref (E.2.1 258), .int (M.1 251 11), .int (M.1 251 12), .ref (E.2.1 259), .ref (E.2.1 260), .ref (E.2.1 261), .ref (E.2.1 262)] 8 (.int x)) : va_E) = uCell E (uSet M 251 8 x) 251 := rfl
theorem us_251_11 (E : uE) (M : uM) (x : Int32) : (.inr (7, List.set [.ref (E.2.1 252), .ref (E.2.1 253), .int (M.1 251 2), .int (M.1 251 3), .int (M.1 251 4), .ref (E.2.1 254), .ref (E.2.1 255), .ref (E.2.1 256), .int (M.1 251 8), .ref (E.2.1 257), .ref (E.2.1 258), .int (M.1 251 11), .int (M.1 251 12), .ref (E.2.1 259), .ref (E.2.1 260), .ref (E.2.1 261), .ref (E.2.1 262)] 11 (.int x)) : va_E) = uCell E (uSet M 251 11 x) 251 := rfl
theorem us_251_12 (E : uE) (M : uM) (x : Int32) : (.inr (7, List.set [.ref (E.2.1 252), .ref (E.2.1 253), .int (M.1 251 2), .int (M.1 251 3), .int (M.1 251 4), .ref (E.2.1 254), .ref (E.2.1 255), .ref (E.2.1 256), .int (M.1 251 8), .ref (E.2.1 257), .ref (E.2.1 258), .int (M.1 251 11), .int (M.1 251 12), .ref (E.2.1 259), .ref (E.2.1 260), .ref (E.2.1 261), .ref (E.2.1 262)] 12 (.int x)) : va_E) = uCell E (uSet M 251 12 x) 251 := rfl
theorem uc_252 (E : uE) (M : uM) : uCell E M 252 = .inl (E.2.2 0, 115, .inl (M.1 252)) := rfl
theorem uc_253 (E : uE) (M : uM) : uCell E M 253 = .inl (E.2.2 0, 90, .inl (M.1 253)) := rfl
theorem uc_254 (E : uE) (M : uM) : uCell E M 254 = .inl (E.2.2 0, 48, .inl (M.1 254)) := rfl
theorem uc_255 (E : uE) (M : uM) : uCell E M 255 = .inl (E.2.2 0, 6, .inl (M.1 255)) := rfl
theorem uc_256 (E : uE) (M : uM) : uCell E M 256 = .inl (E.2.2 0, 920, .inl (M.1 256)) := rfl
theorem uc_257 (E : uE) (M : uM) : uCell E M 257 = .inl (E.2.2 0, 64, .inl (M.1 257)) := rfl
theorem uc_258 (E : uE) (M : uM) : uCell E M 258 = .inl (E.2.2 0, 1035, .inl (M.1 258)) := rfl
theorem uc_259 (E : uE) (M : uM) : uCell E M 259 = .inl (E.2.2 0, 4, .inl (M.1 259)) := rfl
theorem uc_260 (E : uE) (M : uM) : uCell E M 260 = .inl (E.2.2 0, 4, .inl (M.1 260)) := rfl
theorem uc_261 (E : uE) (M : uM) : uCell E M 261 = .inl (E.2.2 1, 96, .inr (.inl (M.2.1 261))) := rfl
theorem uc_262 (E : uE) (M : uM) : uCell E M 262 = .inl (E.2.2 1, 24, .inr (.inl (M.2.1 262))) := rfl
