/-! ===== THE TABLES ARE THE CODE: printed by a program of ours ===== -/
theorem dc_170 : am_dec am_m170 = true := by decide +kernel
set_option maxRecDepth 20000 in
theorem lk_170 : am_all (am_lkr am_m170) am_m170.2.2.2.2.2.2.2 := And.intro rfl (And.intro rfl (And.intro (⟨rfl, rfl, rfl, rfl, rfl⟩) (And.intro rfl (And.intro rfl (And.intro rfl (And.intro (⟨rfl, rfl, rfl, rfl, rfl, rfl, rfl, rfl⟩) (And.intro rfl (And.intro rfl (And.intro (⟨rfl, rfl, rfl⟩) (And.intro rfl (And.intro rfl (And.intro (⟨rfl, rfl, rfl⟩) (And.intro rfl (And.intro (⟨rfl, rfl, rfl, rfl, rfl⟩) (And.intro (⟨rfl, rfl, rfl⟩) (And.intro rfl (And.intro (⟨rfl, rfl, rfl, rfl, rfl⟩) (And.intro (⟨rfl, rfl, rfl⟩) (And.intro (⟨rfl, rfl, rfl, rfl, rfl⟩) (And.intro rfl (And.intro rfl (And.intro (⟨rfl, rfl, rfl, rfl, rfl⟩) (And.intro rfl (And.intro rfl (And.intro rfl (And.intro (⟨rfl, rfl, rfl, rfl, rfl, rfl, rfl, rfl⟩) (And.intro rfl (And.intro (⟨rfl, rfl, rfl⟩) (And.intro (⟨rfl, rfl, rfl⟩) (And.intro rfl (And.intro (⟨rfl, rfl, rfl, rfl, rfl, rfl, rfl, rfl⟩) (And.intro rfl (And.intro (⟨rfl, rfl, rfl, rfl, rfl⟩) (And.intro (⟨rfl, rfl, rfl⟩) (And.intro rfl (And.intro (⟨rfl, rfl, rfl, rfl, rfl⟩) (And.intro (⟨rfl, rfl, rfl⟩) (And.intro (⟨rfl, rfl, rfl, rfl, rfl⟩) (And.intro (⟨rfl, rfl, rfl⟩) (And.intro (⟨rfl, rfl, rfl⟩) (trivial)))))))))))))))))))))))))))))))))))))))))
theorem ow_170 : am_own am_m170 := ⟨by decide +kernel, rfl, rfl, by decide +kernel, by decide +kernel⟩
theorem dc_171 : am_dec am_m171 = true := by decide +kernel
set_option maxRecDepth 20000 in
theorem lk_171 : am_all (am_lkr am_m171) am_m171.2.2.2.2.2.2.2 := And.intro rfl (And.intro (⟨rfl, rfl, rfl, rfl, rfl⟩) (And.intro rfl (And.intro rfl (And.intro rfl (And.intro (⟨rfl, rfl, rfl⟩) (And.intro rfl (And.intro rfl (And.intro (⟨rfl, rfl, rfl⟩) (And.intro (⟨rfl, rfl, rfl⟩) (trivial))))))))))
theorem ow_171 : am_own am_m171 := ⟨by decide +kernel, rfl, rfl, by decide +kernel, by decide +kernel⟩
theorem dc_172 : am_dec am_m172 = true := by decide +kernel
set_option maxRecDepth 20000 in
theorem lk_172 : am_all (am_lkr am_m172) am_m172.2.2.2.2.2.2.2 := And.intro rfl (And.intro (⟨rfl, rfl, rfl⟩) (And.intro (⟨rfl, rfl, rfl, rfl, rfl, Or.inl rfl⟩) (And.intro rfl (And.intro rfl (And.intro rfl (And.intro rfl (And.intro (⟨rfl, rfl, rfl, rfl, rfl, rfl, rfl, rfl⟩) (And.intro rfl (And.intro rfl (And.intro (⟨rfl, rfl, rfl⟩) (And.intro rfl (And.intro rfl (And.intro (⟨rfl, rfl, rfl, rfl, rfl⟩) (And.intro rfl (And.intro rfl (And.intro rfl (And.intro (⟨rfl, rfl, rfl, rfl, rfl, rfl, rfl, rfl⟩) (And.intro (⟨rfl, rfl, rfl⟩) (trivial)))))))))))))))))))
theorem ow_172 : am_own am_m172 := ⟨by decide +kernel, rfl, rfl, by decide +kernel, by decide +kernel⟩
theorem dc_173 : am_dec am_m173 = true := by decide +kernel
set_option maxRecDepth 20000 in
theorem lk_173 : am_all (am_lkr am_m173) am_m173.2.2.2.2.2.2.2 := And.intro rfl (And.intro (⟨rfl, rfl, rfl⟩) (And.intro rfl (And.intro rfl (And.intro (⟨rfl, rfl, rfl, rfl, rfl, rfl, rfl, rfl⟩) (And.intro (⟨rfl, rfl, rfl⟩) (trivial))))))
theorem ow_173 : am_own am_m173 := ⟨by decide +kernel, rfl, rfl, by decide +kernel, by decide +kernel⟩
theorem dc_174 : am_dec am_m174 = true := by decide +kernel
set_option maxRecDepth 20000 in
theorem lk_174 : am_all (am_lkr am_m174) am_m174.2.2.2.2.2.2.2 := And.intro rfl (And.intro (⟨rfl, rfl, rfl, rfl, rfl⟩) (And.intro rfl (And.intro (⟨rfl, rfl, rfl, rfl, rfl⟩) (And.intro (⟨rfl, rfl, rfl, rfl, rfl, rfl, rfl, rfl⟩) (And.intro rfl (And.intro rfl (And.intro (⟨rfl, rfl, rfl, rfl, rfl⟩) (And.intro rfl (And.intro (⟨rfl, rfl, rfl⟩) (And.intro rfl (And.intro (⟨rfl, rfl, rfl, rfl, rfl⟩) (And.intro (⟨rfl, rfl, rfl, rfl, rfl, rfl, rfl, rfl⟩) (And.intro (⟨rfl, rfl, rfl, rfl, rfl, rfl, rfl, rfl⟩) (And.intro (⟨rfl, rfl, rfl⟩) (trivial)))))))))))))))
theorem ow_174 : am_own am_m174 := ⟨by decide +kernel, rfl, rfl, by decide +kernel, by decide +kernel⟩
theorem dc_175 : am_dec am_m175 = true := by decide +kernel
set_option maxRecDepth 20000 in
theorem lk_175 : am_all (am_lkr am_m175) am_m175.2.2.2.2.2.2.2 := And.intro rfl (And.intro (⟨rfl, rfl, rfl⟩) (And.intro rfl (And.intro (⟨rfl, rfl, rfl⟩) (And.intro (⟨rfl, rfl, rfl, rfl, rfl, rfl, rfl, rfl⟩) (And.intro (⟨rfl, rfl, rfl⟩) (trivial))))))
theorem ow_175 : am_own am_m175 := ⟨by decide +kernel, rfl, rfl, by decide +kernel, by decide +kernel⟩
theorem dc_176 : am_dec am_m176 = true := by decide +kernel
set_option maxRecDepth 20000 in
theorem lk_176 : am_all (am_lkr am_m176) am_m176.2.2.2.2.2.2.2 := And.intro rfl (And.intro (⟨rfl, rfl, rfl, rfl, rfl⟩) (And.intro (⟨rfl, rfl, rfl⟩) (And.intro rfl (And.intro rfl (And.intro (⟨rfl, rfl, rfl⟩) (And.intro (⟨rfl, rfl, rfl⟩) (And.intro rfl (And.intro (⟨rfl, rfl, rfl, rfl, rfl, rfl, rfl, rfl⟩) (And.intro rfl (And.intro rfl (And.intro (⟨rfl, rfl, rfl⟩) (And.intro rfl (And.intro (⟨rfl, rfl, rfl⟩) (And.intro (⟨rfl, rfl, rfl⟩) (And.intro rfl (And.intro rfl (And.intro (⟨rfl, rfl, rfl, rfl, rfl, rfl, rfl, rfl⟩) (And.intro rfl (And.intro (⟨rfl, rfl, rfl⟩) (And.intro (⟨rfl, rfl, rfl⟩) (And.intro rfl (And.intro rfl (And.intro (⟨rfl, rfl, rfl⟩) (And.intro (⟨rfl, rfl, rfl, rfl, rfl, rfl, rfl, rfl⟩) (And.intro rfl (And.intro rfl (And.intro rfl (And.intro (⟨rfl, rfl, rfl, rfl, rfl, rfl, rfl, rfl⟩) (And.intro rfl (And.intro (⟨rfl, rfl, rfl⟩) (trivial)))))))))))))))))))))))))))))))
theorem ow_176 : am_own am_m176 := ⟨by decide +kernel, rfl, rfl, by decide +kernel, by decide +kernel⟩
theorem dc_177 : am_dec am_m177 = true := by decide +kernel
set_option maxRecDepth 20000 in
theorem lk_177 : am_all (am_lkr am_m177) am_m177.2.2.2.2.2.2.2 := And.intro rfl (And.intro (⟨rfl, rfl, rfl, rfl, rfl⟩) (And.intro rfl (And.intro (⟨rfl, rfl, rfl, rfl, rfl⟩) (And.intro (⟨rfl, rfl, rfl, rfl, rfl, rfl, rfl, rfl⟩) (And.intro rfl (And.intro rfl (And.intro (⟨rfl, rfl, rfl, rfl, rfl⟩) (And.intro (⟨rfl, rfl, rfl, rfl, rfl, rfl, rfl, rfl⟩) (And.intro (⟨rfl, rfl, rfl, rfl, rfl, rfl, rfl, rfl⟩) (And.intro (⟨rfl, rfl, rfl⟩) (trivial)))))))))))
theorem ow_177 : am_own am_m177 := ⟨by decide +kernel, rfl, rfl, by decide +kernel, by decide +kernel⟩
theorem dc_178 : am_dec am_m178 = true := by decide +kernel
set_option maxRecDepth 20000 in
theorem lk_178 : am_all (am_lkr am_m178) am_m178.2.2.2.2.2.2.2 := And.intro rfl (And.intro (⟨rfl, rfl, rfl⟩) (And.intro (⟨rfl, rfl, rfl⟩) (And.intro (⟨rfl, rfl, rfl⟩) (And.intro (⟨rfl, rfl, rfl, rfl, rfl, rfl, rfl, rfl⟩) (And.intro (⟨rfl, rfl, rfl⟩) (trivial))))))
theorem ow_178 : am_own am_m178 := ⟨by decide +kernel, rfl, rfl, by decide +kernel, by decide +kernel⟩
theorem dc_179 : am_dec am_m179 = true := by decide +kernel
set_option maxRecDepth 20000 in
theorem lk_179 : am_all (am_lkr am_m179) am_m179.2.2.2.2.2.2.2 := And.intro rfl (And.intro (⟨rfl, rfl, rfl, rfl, rfl⟩) (And.intro (⟨rfl, rfl, rfl⟩) (And.intro (⟨rfl, rfl, rfl, rfl, rfl⟩) (And.intro (⟨rfl, rfl, rfl⟩) (And.intro rfl (And.intro (⟨rfl, rfl, rfl⟩) (And.intro rfl (And.intro rfl (And.intro rfl (And.intro (⟨rfl, rfl, rfl, rfl, rfl⟩) (And.intro (⟨rfl, rfl, rfl⟩) (And.intro rfl (And.intro rfl (And.intro rfl (And.intro rfl (And.intro (⟨rfl, rfl, rfl, rfl, rfl, rfl, rfl, rfl⟩) (And.intro rfl (And.intro rfl (And.intro rfl (And.intro (⟨rfl, rfl, rfl, rfl, rfl, rfl, rfl, rfl⟩) (And.intro rfl (And.intro rfl (And.intro (⟨rfl, rfl, rfl, rfl, rfl⟩) (And.intro rfl (And.intro rfl (And.intro rfl (And.intro (⟨rfl, rfl, rfl⟩) (And.intro (⟨rfl, rfl, rfl⟩) (And.intro rfl (And.intro (⟨rfl, rfl⟩) (trivial)))))))))))))))))))))))))))))))
theorem ow_179 : am_own am_m179 := ⟨by decide +kernel, rfl, rfl, by decide +kernel, by decide +kernel⟩
theorem dc_180 : am_dec am_m180 = true := by decide +kernel
set_option maxRecDepth 20000 in
theorem lk_180 : am_all (am_lkr am_m180) am_m180.2.2.2.2.2.2.2 := And.intro (⟨rfl, rfl, rfl⟩) (And.intro rfl (And.intro (⟨rfl, rfl, rfl⟩) (And.intro rfl (And.intro rfl (And.intro (⟨rfl, rfl, rfl⟩) (And.intro rfl (And.intro rfl (And.intro rfl (And.intro rfl (And.intro (⟨rfl, rfl, rfl, rfl, rfl, rfl, rfl, rfl⟩) (And.intro (⟨rfl, rfl, rfl, rfl, rfl, rfl, rfl⟩) (And.intro rfl (And.intro (⟨rfl, rfl, rfl⟩) (And.intro rfl (And.intro rfl (And.intro (⟨rfl, rfl, rfl⟩) (trivial)))))))))))))))))
theorem ow_180 : am_own am_m180 := ⟨by decide +kernel, rfl, rfl, by decide +kernel, by decide +kernel⟩
theorem dc_181 : am_dec am_m181 = true := by decide +kernel
set_option maxRecDepth 20000 in
theorem lk_181 : am_all (am_lkr am_m181) am_m181.2.2.2.2.2.2.2 := And.intro (⟨rfl, rfl, rfl⟩) (And.intro rfl (And.intro (⟨rfl, rfl, rfl⟩) (And.intro rfl (And.intro rfl (And.intro (⟨rfl, rfl, rfl⟩) (And.intro rfl (And.intro rfl (And.intro rfl (And.intro (⟨rfl, rfl, rfl, rfl, rfl, rfl, rfl, rfl⟩) (And.intro (⟨rfl, rfl, rfl⟩) (And.intro rfl (And.intro (⟨rfl, rfl, rfl⟩) (And.intro (⟨rfl, rfl, rfl⟩) (And.intro rfl (And.intro rfl (And.intro (⟨rfl, rfl, rfl⟩) (trivial)))))))))))))))))
theorem ow_181 : am_own am_m181 := ⟨by decide +kernel, rfl, rfl, by decide +kernel, by decide +kernel⟩
theorem dc_182 : am_dec am_m182 = true := by decide +kernel
set_option maxRecDepth 20000 in
theorem lk_182 : am_all (am_lkr am_m182) am_m182.2.2.2.2.2.2.2 := And.intro rfl (And.intro (⟨rfl, rfl, rfl, rfl, rfl⟩) (And.intro (⟨rfl, rfl, rfl⟩) (And.intro rfl (And.intro rfl (And.intro (⟨rfl, rfl, rfl⟩) (And.intro (⟨rfl, rfl, rfl⟩) (And.intro (⟨rfl, rfl, rfl⟩) (And.intro rfl (And.intro rfl (And.intro rfl (And.intro (⟨rfl, rfl, rfl, rfl, rfl⟩) (And.intro (⟨rfl, rfl, rfl⟩) (And.intro rfl (And.intro rfl (And.intro rfl (And.intro (⟨rfl, rfl, rfl, rfl, rfl⟩) (And.intro rfl (And.intro rfl (And.intro (⟨rfl, rfl, rfl⟩) (And.intro rfl (And.intro rfl (And.intro (⟨rfl, rfl, rfl, rfl, rfl⟩) (And.intro rfl (And.intro rfl (And.intro rfl (And.intro (⟨rfl, rfl, rfl, rfl, rfl, rfl, rfl, rfl⟩) (And.intro rfl (And.intro (⟨rfl, rfl, rfl⟩) (And.intro rfl (And.intro rfl (And.intro (⟨rfl, rfl, rfl, rfl, rfl, rfl, rfl, rfl⟩) (And.intro rfl (And.intro (⟨rfl, rfl, rfl, rfl, rfl⟩) (And.intro (⟨rfl, rfl, rfl⟩) (And.intro rfl (And.intro (⟨rfl, rfl, rfl, rfl, rfl, rfl, rfl, rfl⟩) (And.intro rfl (And.intro rfl (And.intro (⟨rfl, rfl, rfl, rfl, rfl⟩) (And.intro (⟨rfl, rfl, rfl⟩) (And.intro rfl (And.intro rfl (And.intro (⟨rfl, rfl, rfl⟩) (And.intro rfl (And.intro rfl (And.intro rfl (And.intro (⟨rfl, rfl, rfl, rfl, rfl, rfl, rfl, rfl⟩) (And.intro rfl (And.intro rfl (And.intro (⟨rfl, rfl, rfl, rfl, rfl⟩) (And.intro (⟨rfl, rfl, rfl⟩) (And.intro (⟨rfl, rfl, rfl⟩) (And.intro rfl (And.intro (⟨rfl, rfl, rfl, rfl, rfl, rfl, rfl, rfl⟩) (And.intro rfl (And.intro (⟨rfl, rfl, rfl⟩) (trivial)))))))))))))))))))))))))))))))))))))))))))))))))))))))))
theorem ow_182 : am_own am_m182 := ⟨by decide +kernel, rfl, rfl, by decide +kernel, by decide +kernel⟩
theorem dc_183 : am_dec am_m183 = true := by decide +kernel
set_option maxRecDepth 20000 in
theorem lk_183 : am_all (am_lkr am_m183) am_m183.2.2.2.2.2.2.2 := And.intro rfl (And.intro (⟨rfl, rfl, rfl, rfl, rfl⟩) (And.intro rfl (And.intro (⟨rfl, rfl, rfl, rfl, rfl⟩) (And.intro (⟨rfl, rfl, rfl, rfl, rfl, rfl, rfl, rfl⟩) (And.intro rfl (And.intro rfl (And.intro (⟨rfl, rfl, rfl, rfl, rfl⟩) (And.intro (⟨rfl, rfl, rfl, rfl, rfl, rfl, rfl, rfl⟩) (And.intro (⟨rfl, rfl, rfl, rfl, rfl, rfl, rfl, rfl⟩) (And.intro (⟨rfl, rfl, rfl⟩) (trivial)))))))))))
theorem ow_183 : am_own am_m183 := ⟨by decide +kernel, rfl, rfl, by decide +kernel, by decide +kernel⟩
theorem dc_184 : am_dec am_m184 = true := by decide +kernel
set_option maxRecDepth 20000 in
theorem lk_184 : am_all (am_lkr am_m184) am_m184.2.2.2.2.2.2.2 := And.intro rfl (And.intro (⟨rfl, rfl, rfl⟩) (And.intro (⟨rfl, rfl, rfl⟩) (And.intro (⟨rfl, rfl, rfl⟩) (And.intro (⟨rfl, rfl, rfl, rfl, rfl, rfl, rfl, rfl⟩) (And.intro (⟨rfl, rfl, rfl⟩) (trivial))))))
theorem ow_184 : am_own am_m184 := ⟨by decide +kernel, rfl, rfl, by decide +kernel, by decide +kernel⟩
theorem dc_185 : am_dec am_m185 = true := by decide +kernel
set_option maxRecDepth 20000 in
theorem lk_185 : am_all (am_lkr am_m185) am_m185.2.2.2.2.2.2.2 := And.intro rfl (And.intro rfl (And.intro (⟨rfl, rfl, rfl, rfl, rfl, rfl, rfl, rfl⟩) (And.intro rfl (And.intro (⟨rfl, rfl, rfl⟩) (And.intro (⟨rfl, rfl, rfl⟩) (And.intro rfl (And.intro (⟨rfl, rfl, rfl, rfl, rfl⟩) (And.intro rfl (And.intro rfl (And.intro (⟨rfl, rfl, rfl⟩) (And.intro rfl (And.intro rfl (And.intro (⟨rfl, rfl, rfl, rfl, rfl⟩) (And.intro rfl (And.intro rfl (And.intro (⟨rfl, rfl, rfl⟩) (And.intro rfl (And.intro (⟨rfl, rfl, rfl⟩) (And.intro (⟨rfl, rfl, rfl⟩) (And.intro rfl (And.intro (⟨rfl, rfl, rfl⟩) (And.intro (⟨rfl, rfl, rfl, rfl, rfl, rfl, rfl, rfl⟩) (And.intro rfl (And.intro (⟨rfl, rfl, rfl, rfl, rfl⟩) (And.intro (⟨rfl, rfl, rfl⟩) (And.intro rfl (And.intro rfl (And.intro (⟨rfl, rfl, rfl⟩) (And.intro (⟨rfl, rfl, rfl⟩) (And.intro rfl (And.intro (⟨rfl, rfl, rfl, rfl, rfl⟩) (And.intro rfl (And.intro rfl (And.intro rfl (And.intro rfl (And.intro (⟨rfl, rfl, rfl, rfl, rfl, rfl, rfl, rfl⟩) (And.intro rfl (And.intro (⟨rfl, rfl, rfl, rfl, rfl⟩) (And.intro (⟨rfl, rfl, rfl⟩) (And.intro rfl (And.intro rfl (And.intro (⟨rfl, rfl, rfl⟩) (And.intro (⟨rfl, rfl, rfl⟩) (And.intro rfl (And.intro (⟨rfl, rfl, rfl, rfl, rfl⟩) (And.intro rfl (And.intro (⟨rfl, rfl, rfl⟩) (And.intro rfl (And.intro rfl (And.intro (⟨rfl, rfl, rfl, rfl, rfl⟩) (And.intro rfl (And.intro (⟨rfl, rfl, rfl⟩) (And.intro rfl (And.intro rfl (And.intro (⟨rfl, rfl, rfl, rfl, rfl⟩) (And.intro (⟨rfl, rfl, rfl⟩) (And.intro rfl (And.intro (⟨rfl, rfl, rfl⟩) (And.intro (⟨rfl, rfl, rfl, rfl, rfl, rfl, rfl, rfl⟩) (And.intro rfl (And.intro (⟨rfl, rfl, rfl⟩) (And.intro (⟨rfl, rfl, rfl, rfl, rfl, rfl, rfl, rfl⟩) (And.intro (⟨rfl, rfl, rfl⟩) (trivial))))))))))))))))))))))))))))))))))))))))))))))))))))))))))))))))
theorem ow_185 : am_own am_m185 := ⟨by decide +kernel, rfl, rfl, by decide +kernel, by decide +kernel⟩
theorem dc_186 : am_dec am_m186 = true := by decide +kernel
set_option maxRecDepth 20000 in
theorem lk_186 : am_all (am_lkr am_m186) am_m186.2.2.2.2.2.2.2 := And.intro rfl (And.intro (⟨rfl, rfl, rfl, rfl, rfl⟩) (And.intro rfl (And.intro (⟨rfl, rfl, rfl, rfl, rfl⟩) (And.intro (⟨rfl, rfl, rfl, rfl, rfl, rfl, rfl, rfl⟩) (And.intro rfl (And.intro rfl (And.intro (⟨rfl, rfl, rfl, rfl, rfl⟩) (And.intro rfl (And.intro (⟨rfl, rfl, rfl, rfl, rfl, rfl, rfl, rfl⟩) (And.intro (⟨rfl, rfl, rfl, rfl, rfl, rfl, rfl, rfl⟩) (And.intro (⟨rfl, rfl, rfl⟩) (trivial))))))))))))
theorem ow_186 : am_own am_m186 := ⟨by decide +kernel, rfl, rfl, by decide +kernel, by decide +kernel⟩
theorem dc_187 : am_dec am_m187 = true := by decide +kernel
set_option maxRecDepth 20000 in
theorem lk_187 : am_all (am_lkr am_m187) am_m187.2.2.2.2.2.2.2 := And.intro rfl (And.intro (⟨rfl, rfl, rfl⟩) (And.intro rfl (And.intro (⟨rfl, rfl, rfl⟩) (And.intro (⟨rfl, rfl, rfl, rfl, rfl, rfl, rfl, rfl⟩) (And.intro (⟨rfl, rfl, rfl⟩) (trivial))))))
theorem ow_187 : am_own am_m187 := ⟨by decide +kernel, rfl, rfl, by decide +kernel, by decide +kernel⟩
theorem dc_188 : am_dec am_m188 = true := by decide +kernel
set_option maxRecDepth 20000 in
theorem lk_188 : am_all (am_lkr am_m188) am_m188.2.2.2.2.2.2.2 := And.intro rfl (And.intro rfl (And.intro (⟨rfl, rfl, rfl, rfl, rfl, rfl, rfl, rfl⟩) (And.intro rfl (And.intro (⟨rfl, rfl, rfl⟩) (And.intro (⟨rfl, rfl, rfl⟩) (And.intro rfl (And.intro (⟨rfl, rfl, rfl, rfl, rfl⟩) (And.intro rfl (And.intro rfl (And.intro (⟨rfl, rfl, rfl⟩) (And.intro rfl (And.intro (⟨rfl, rfl, rfl⟩) (And.intro (⟨rfl, rfl, rfl⟩) (And.intro rfl (And.intro rfl (And.intro (⟨rfl, rfl, rfl, rfl, rfl, rfl, rfl, rfl⟩) (And.intro rfl (And.intro (⟨rfl, rfl, rfl⟩) (And.intro (⟨rfl, rfl, rfl, rfl, rfl, rfl, rfl, rfl⟩) (And.intro (⟨rfl, rfl, rfl⟩) (trivial)))))))))))))))))))))
theorem ow_188 : am_own am_m188 := ⟨by decide +kernel, rfl, rfl, by decide +kernel, by decide +kernel⟩
theorem dc_189 : am_dec am_m189 = true := by decide +kernel
set_option maxRecDepth 20000 in
theorem lk_189 : am_all (am_lkr am_m189) am_m189.2.2.2.2.2.2.2 := And.intro rfl (And.intro (⟨rfl, rfl, rfl, rfl, rfl⟩) (And.intro rfl (And.intro (⟨rfl, rfl, rfl, rfl, rfl⟩) (And.intro (⟨rfl, rfl, rfl, rfl, rfl, rfl, rfl, rfl⟩) (And.intro rfl (And.intro rfl (And.intro (⟨rfl, rfl, rfl, rfl, rfl⟩) (And.intro rfl (And.intro (⟨rfl, rfl, rfl, rfl, rfl, rfl, rfl, rfl⟩) (And.intro (⟨rfl, rfl, rfl, rfl, rfl, rfl, rfl, rfl⟩) (And.intro (⟨rfl, rfl, rfl⟩) (trivial))))))))))))
theorem ow_189 : am_own am_m189 := ⟨by decide +kernel, rfl, rfl, by decide +kernel, by decide +kernel⟩
theorem dc_190 : am_dec am_m190 = true := by decide +kernel
set_option maxRecDepth 20000 in
theorem lk_190 : am_all (am_lkr am_m190) am_m190.2.2.2.2.2.2.2 := And.intro rfl (And.intro (⟨rfl, rfl, rfl⟩) (And.intro rfl (And.intro (⟨rfl, rfl, rfl⟩) (And.intro (⟨rfl, rfl, rfl, rfl, rfl, rfl, rfl, rfl⟩) (And.intro (⟨rfl, rfl, rfl⟩) (trivial))))))
theorem ow_190 : am_own am_m190 := ⟨by decide +kernel, rfl, rfl, by decide +kernel, by decide +kernel⟩
theorem dc_191 : am_dec am_m191 = true := by decide +kernel
set_option maxRecDepth 20000 in
theorem lk_191 : am_all (am_lkr am_m191) am_m191.2.2.2.2.2.2.2 := And.intro rfl (And.intro rfl (And.intro (⟨rfl, rfl, rfl, rfl, rfl, rfl, rfl, rfl⟩) (And.intro rfl (And.intro (⟨rfl, rfl, rfl⟩) (And.intro (⟨rfl, rfl, rfl⟩) (And.intro rfl (And.intro rfl (And.intro (⟨rfl, rfl, rfl, rfl, rfl, rfl, rfl, rfl⟩) (And.intro rfl (And.intro (⟨rfl, rfl, rfl⟩) (And.intro (⟨rfl, rfl, rfl⟩) (And.intro rfl (And.intro rfl (And.intro (⟨rfl, rfl, rfl, rfl, rfl, rfl, rfl, rfl⟩) (And.intro rfl (And.intro (⟨rfl, rfl, rfl, rfl, rfl⟩) (And.intro rfl (And.intro rfl (And.intro (⟨rfl, rfl, rfl⟩) (trivial))))))))))))))))))))
theorem ow_191 : am_own am_m191 := ⟨by decide +kernel, rfl, rfl, by decide +kernel, by decide +kernel⟩
theorem dc_192 : am_dec am_m192 = true := by decide +kernel
set_option maxRecDepth 20000 in
theorem lk_192 : am_all (am_lkr am_m192) am_m192.2.2.2.2.2.2.2 := And.intro rfl (And.intro (⟨rfl, rfl, rfl, rfl, rfl⟩) (And.intro rfl (And.intro (⟨rfl, rfl, rfl, rfl, rfl⟩) (And.intro (⟨rfl, rfl, rfl, rfl, rfl, rfl, rfl, rfl⟩) (And.intro rfl (And.intro rfl (And.intro (⟨rfl, rfl, rfl, rfl, rfl⟩) (And.intro rfl (And.intro (⟨rfl, rfl, rfl, rfl, rfl, rfl, rfl, rfl⟩) (And.intro (⟨rfl, rfl, rfl, rfl, rfl, rfl, rfl, rfl⟩) (And.intro (⟨rfl, rfl, rfl⟩) (trivial))))))))))))
theorem ow_192 : am_own am_m192 := ⟨by decide +kernel, rfl, rfl, by decide +kernel, by decide +kernel⟩
theorem dc_193 : am_dec am_m193 = true := by decide +kernel
set_option maxRecDepth 20000 in
theorem lk_193 : am_all (am_lkr am_m193) am_m193.2.2.2.2.2.2.2 := And.intro rfl (And.intro (⟨rfl, rfl, rfl⟩) (And.intro rfl (And.intro (⟨rfl, rfl, rfl⟩) (And.intro (⟨rfl, rfl, rfl, rfl, rfl, rfl, rfl, rfl⟩) (And.intro (⟨rfl, rfl, rfl⟩) (trivial))))))
theorem ow_193 : am_own am_m193 := ⟨by decide +kernel, rfl, rfl, by decide +kernel, by decide +kernel⟩
theorem dc_194 : am_dec am_m194 = true := by decide +kernel
set_option maxRecDepth 20000 in
theorem lk_194 : am_all (am_lkr am_m194) am_m194.2.2.2.2.2.2.2 := And.intro rfl (And.intro rfl (And.intro (⟨rfl, rfl, rfl, rfl, rfl, rfl, rfl, rfl⟩) (And.intro rfl (And.intro (⟨rfl, rfl, rfl⟩) (And.intro (⟨rfl, rfl, rfl⟩) (And.intro rfl (And.intro (⟨rfl, rfl, rfl, rfl, rfl⟩) (And.intro rfl (And.intro rfl (And.intro rfl (And.intro (⟨rfl, rfl, rfl⟩) (And.intro (⟨rfl, rfl, rfl⟩) (And.intro rfl (And.intro rfl (And.intro (⟨rfl, rfl, rfl, rfl, rfl, rfl, rfl, rfl⟩) (And.intro rfl (And.intro (⟨rfl, rfl, rfl⟩) (And.intro (⟨rfl, rfl, rfl⟩) (And.intro rfl (And.intro rfl (And.intro (⟨rfl, rfl, rfl, rfl, rfl, rfl, rfl, rfl⟩) (And.intro rfl (And.intro (⟨rfl, rfl, rfl, rfl, rfl⟩) (And.intro rfl (And.intro rfl (And.intro (⟨rfl, rfl, rfl⟩) (trivial)))))))))))))))))))))))))))
theorem ow_194 : am_own am_m194 := ⟨by decide +kernel, rfl, rfl, by decide +kernel, by decide +kernel⟩
theorem dc_195 : am_dec am_m195 = true := by decide +kernel
set_option maxRecDepth 20000 in
theorem lk_195 : am_all (am_lkr am_m195) am_m195.2.2.2.2.2.2.2 := And.intro rfl (And.intro (⟨rfl, rfl, rfl, rfl, rfl⟩) (And.intro rfl (And.intro (⟨rfl, rfl, rfl, rfl, rfl⟩) (And.intro (⟨rfl, rfl, rfl, rfl, rfl, rfl, rfl, rfl⟩) (And.intro rfl (And.intro rfl (And.intro (⟨rfl, rfl, rfl, rfl, rfl⟩) (And.intro rfl (And.intro (⟨rfl, rfl, rfl, rfl, rfl, rfl, rfl, rfl⟩) (And.intro (⟨rfl, rfl, rfl, rfl, rfl, rfl, rfl, rfl⟩) (And.intro (⟨rfl, rfl, rfl⟩) (trivial))))))))))))
theorem ow_195 : am_own am_m195 := ⟨by decide +kernel, rfl, rfl, by decide +kernel, by decide +kernel⟩
theorem dc_196 : am_dec am_m196 = true := by decide +kernel
set_option maxRecDepth 20000 in
theorem lk_196 : am_all (am_lkr am_m196) am_m196.2.2.2.2.2.2.2 := And.intro rfl (And.intro (⟨rfl, rfl, rfl⟩) (And.intro rfl (And.intro (⟨rfl, rfl, rfl⟩) (And.intro (⟨rfl, rfl, rfl, rfl, rfl, rfl, rfl, rfl⟩) (And.intro (⟨rfl, rfl, rfl⟩) (trivial))))))
theorem ow_196 : am_own am_m196 := ⟨by decide +kernel, rfl, rfl, by decide +kernel, by decide +kernel⟩
theorem dc_197 : am_dec am_m197 = true := by decide +kernel
set_option maxRecDepth 20000 in
theorem lk_197 : am_all (am_lkr am_m197) am_m197.2.2.2.2.2.2.2 := And.intro rfl (And.intro rfl (And.intro rfl (And.intro (⟨rfl, rfl, rfl⟩) (And.intro rfl (And.intro (⟨rfl, rfl, rfl⟩) (And.intro rfl (And.intro (⟨rfl, rfl, rfl⟩) (And.intro (⟨rfl, rfl, rfl⟩) (trivial)))))))))
theorem ow_197 : am_own am_m197 := ⟨by decide +kernel, rfl, rfl, by decide +kernel, by decide +kernel⟩
theorem dc_198 : am_dec am_m198 = true := by decide +kernel
set_option maxRecDepth 20000 in
theorem lk_198 : am_all (am_lkr am_m198) am_m198.2.2.2.2.2.2.2 := And.intro rfl (And.intro (⟨rfl, rfl, rfl, rfl, rfl⟩) (And.intro (⟨rfl, rfl, rfl⟩) (And.intro rfl (And.intro rfl (And.intro (⟨rfl, rfl, rfl⟩) (And.intro (⟨rfl, rfl, rfl⟩) (And.intro rfl (And.intro (⟨rfl, rfl, rfl, rfl, rfl⟩) (And.intro rfl (And.intro (⟨rfl, rfl, rfl⟩) (And.intro (⟨rfl, rfl, rfl⟩) (And.intro rfl (And.intro (⟨rfl, rfl, rfl, rfl, rfl⟩) (And.intro (⟨rfl, rfl, rfl⟩) (And.intro rfl (And.intro rfl (And.intro rfl (And.intro rfl (And.intro rfl (And.intro (⟨rfl, rfl, rfl⟩) (And.intro (⟨rfl, rfl, rfl⟩) (And.intro rfl (And.intro (⟨rfl, rfl, rfl, rfl, rfl⟩) (And.intro (⟨rfl, rfl, rfl⟩) (And.intro rfl (And.intro rfl (And.intro rfl (And.intro (⟨rfl, rfl, rfl⟩) (trivial)))))))))))))))))))))))))))))
theorem ow_198 : am_own am_m198 := ⟨by decide +kernel, rfl, rfl, by decide +kernel, by decide +kernel⟩
theorem dc_199 : am_dec am_m199 = true := by decide +kernel
set_option maxRecDepth 20000 in
theorem lk_199 : am_all (am_lkr am_m199) am_m199.2.2.2.2.2.2.2 := And.intro rfl (And.intro (⟨rfl, rfl, rfl, rfl, rfl⟩) (And.intro rfl (And.intro (⟨rfl, rfl, rfl, rfl, rfl⟩) (And.intro (⟨rfl, rfl, rfl, rfl, rfl, rfl, rfl, rfl⟩) (And.intro rfl (And.intro rfl (And.intro (⟨rfl, rfl, rfl, rfl, rfl⟩) (And.intro rfl (And.intro (⟨rfl, rfl, rfl, rfl, rfl, rfl, rfl, rfl⟩) (And.intro (⟨rfl, rfl, rfl, rfl, rfl, rfl, rfl, rfl⟩) (And.intro (⟨rfl, rfl, rfl⟩) (trivial))))))))))))
theorem ow_199 : am_own am_m199 := ⟨by decide +kernel, rfl, rfl, by decide +kernel, by decide +kernel⟩
theorem dc_200 : am_dec am_m200 = true := by decide +kernel
set_option maxRecDepth 20000 in
theorem lk_200 : am_all (am_lkr am_m200) am_m200.2.2.2.2.2.2.2 := And.intro rfl (And.intro (⟨rfl, rfl, rfl⟩) (And.intro rfl (And.intro (⟨rfl, rfl, rfl⟩) (And.intro (⟨rfl, rfl, rfl, rfl, rfl, rfl, rfl, rfl⟩) (And.intro (⟨rfl, rfl, rfl⟩) (trivial))))))
theorem ow_200 : am_own am_m200 := ⟨by decide +kernel, rfl, rfl, by decide +kernel, by decide +kernel⟩
theorem dc_201 : am_dec am_m201 = true := by decide +kernel
set_option maxRecDepth 20000 in
theorem lk_201 : am_all (am_lkr am_m201) am_m201.2.2.2.2.2.2.2 := And.intro rfl (And.intro rfl (And.intro (⟨rfl, rfl, rfl, rfl, rfl⟩) (And.intro (⟨rfl, rfl, rfl⟩) (And.intro rfl (And.intro (⟨rfl, rfl, rfl⟩) (And.intro rfl (And.intro (⟨rfl, rfl, rfl, rfl, rfl, Or.inl rfl⟩) (And.intro rfl (And.intro rfl (And.intro (⟨rfl, rfl, rfl⟩) (And.intro rfl (And.intro rfl (And.intro (⟨rfl, rfl, rfl, rfl, rfl⟩) (And.intro (⟨rfl, rfl, rfl⟩) (And.intro rfl (And.intro rfl (And.intro rfl (And.intro rfl (And.intro rfl (And.intro (⟨rfl, rfl, rfl⟩) (trivial)))))))))))))))))))))
theorem ow_201 : am_own am_m201 := ⟨by decide +kernel, rfl, rfl, by decide +kernel, by decide +kernel⟩
theorem dc_202 : am_dec am_m202 = true := by decide +kernel
set_option maxRecDepth 20000 in
theorem lk_202 : am_all (am_lkr am_m202) am_m202.2.2.2.2.2.2.2 := And.intro rfl (And.intro (⟨rfl, rfl⟩) (And.intro rfl (And.intro (⟨rfl, rfl, rfl, rfl, rfl⟩) (And.intro rfl (And.intro (⟨rfl, rfl, rfl, rfl, rfl⟩) (And.intro (⟨rfl, rfl, rfl⟩) (And.intro (⟨rfl, rfl, rfl, rfl, rfl, rfl, rfl, rfl⟩) (And.intro (⟨rfl, rfl, rfl⟩) (And.intro rfl (And.intro (⟨rfl, rfl, rfl, rfl, rfl⟩) (And.intro (⟨rfl, rfl, rfl, rfl, rfl, rfl, rfl, rfl⟩) (And.intro (⟨rfl, rfl, rfl⟩) (And.intro rfl (And.intro (⟨rfl, rfl, rfl, rfl, rfl⟩) (And.intro (⟨rfl, rfl, rfl, rfl, rfl, rfl, rfl, rfl⟩) (And.intro (⟨rfl, rfl, rfl⟩) (And.intro rfl (And.intro (⟨rfl, rfl, rfl, rfl, rfl⟩) (And.intro rfl (And.intro (⟨rfl, rfl, rfl, rfl, rfl⟩) (And.intro rfl (And.intro (⟨rfl, rfl, rfl, rfl, rfl⟩) (And.intro (⟨rfl, rfl, rfl, rfl, rfl⟩) (And.intro (⟨rfl, rfl, rfl⟩) (And.intro rfl (And.intro (⟨rfl, rfl, rfl, rfl, rfl, rfl, rfl, rfl⟩) (And.intro (⟨rfl, rfl, rfl, rfl, rfl, rfl, rfl, rfl⟩) (And.intro (⟨rfl, rfl, rfl⟩) (And.intro rfl (And.intro (⟨rfl, rfl, rfl, rfl, rfl⟩) (And.intro (⟨rfl, rfl, rfl⟩) (And.intro (⟨rfl, rfl, rfl, rfl, rfl, rfl, rfl, rfl⟩) (And.intro rfl (And.intro rfl (And.intro (⟨rfl, rfl, rfl, rfl, rfl⟩) (And.intro rfl (And.intro rfl (And.intro (⟨rfl, rfl, rfl, rfl, rfl⟩) (And.intro (⟨rfl, rfl, rfl⟩) (And.intro (⟨rfl, rfl, rfl, rfl, rfl, rfl, rfl, rfl⟩) (And.intro rfl (And.intro (⟨rfl, rfl, rfl, rfl, rfl⟩) (And.intro (⟨rfl, rfl, rfl, rfl, rfl, rfl, rfl, rfl⟩) (And.intro (⟨rfl, rfl, rfl⟩) (trivial)))))))))))))))))))))))))))))))))))))))))))))
theorem ow_202 : am_own am_m202 := ⟨by decide +kernel, rfl, rfl, by decide +kernel, by decide +kernel⟩
theorem dc_203 : am_dec am_m203 = true := by decide +kernel
set_option maxRecDepth 20000 in
theorem lk_203 : am_all (am_lkr am_m203) am_m203.2.2.2.2.2.2.2 := And.intro rfl (And.intro (⟨rfl, rfl, rfl, rfl, rfl, rfl, rfl, rfl⟩) (And.intro rfl (And.intro rfl (And.intro (⟨rfl, rfl, rfl⟩) (And.intro rfl (And.intro rfl (And.intro (⟨rfl, rfl, rfl⟩) (And.intro rfl (And.intro (⟨rfl, rfl, rfl⟩) (And.intro (⟨rfl, rfl, rfl⟩) (And.intro rfl (And.intro (⟨rfl, rfl, rfl, rfl, rfl⟩) (And.intro rfl (And.intro (⟨rfl, rfl, rfl, rfl, rfl, Or.inl rfl⟩) (And.intro (⟨rfl, rfl, rfl⟩) (And.intro rfl (And.intro rfl (And.intro rfl (And.intro rfl (And.intro rfl (And.intro (⟨rfl, rfl, rfl, rfl, rfl⟩) (And.intro rfl (And.intro (⟨rfl, rfl, rfl, rfl, rfl⟩) (And.intro (⟨rfl, rfl, rfl, rfl, rfl, rfl, rfl, rfl⟩) (And.intro rfl (And.intro rfl (And.intro (⟨rfl, rfl, rfl, rfl, rfl⟩) (And.intro (⟨rfl, rfl, rfl⟩) (And.intro (⟨rfl, rfl, rfl, rfl, rfl, rfl, rfl, rfl⟩) (And.intro (⟨rfl, rfl, rfl, rfl, rfl, rfl, rfl, rfl⟩) (And.intro rfl (And.intro rfl (And.intro (⟨rfl, rfl, rfl, rfl, rfl⟩) (And.intro (⟨rfl, rfl, rfl, rfl, rfl, rfl, rfl, rfl⟩) (And.intro (⟨rfl, rfl, rfl⟩) (And.intro rfl (And.intro rfl (And.intro (⟨rfl, rfl, rfl, rfl, rfl⟩) (And.intro (⟨rfl, rfl, rfl, rfl, rfl⟩) (And.intro (⟨rfl, rfl, rfl⟩) (And.intro rfl (And.intro (⟨rfl, rfl, rfl⟩) (trivial)))))))))))))))))))))))))))))))))))))))))))
theorem ow_203 : am_own am_m203 := ⟨by decide +kernel, rfl, rfl, by decide +kernel, by decide +kernel⟩
