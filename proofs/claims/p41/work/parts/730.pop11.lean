section FPOP11
def x_sf_238 : Nat → XV := fun i => (2, ([1539, 13191528, 172190, 1001244, 1055844, 1525668884, 1419992986150, 35833807327750, 446741167, 1703836604, 21816, 389731740468, 19128, 18834, 21064] : List Nat).getD i 0, 0)
def x_sf_246 : Nat → XV := fun i => (0, ([0, 0, 3, 5, 1] : List Nat).getD i 0, 0)
def x_sf_247 : Nat → XV := fun i => (0, ([0] : List Nat).getD i 0, 0)
def x_sf_248 : Nat → XV := fun i => (6, 249 + i, 0)
def x_sf_257 : Nat → XV := fun i => (6, 258 + i, 0)
def x_sf_258 : Nat → XV := fun i => (0, ([1, 0, 0, 2, 1] : List Nat).getD i 0, 0)
def x_sf_259 : Nat → XV := fun i => (0, ([0, 1, 1, 1, 0, 0, 0, 0, 4294967293] : List Nat).getD i 0, 0)
def x_sf_260 : Nat → XV := fun i => (0, ([0, 1, 1, 0, 0, 1, 0, 1, 4294967293] : List Nat).getD i 0, 0)
def x_sf_270 : Nat → XV := fun i => (2, ([0] : List Nat).getD i 0, 0)
def x_sf_271 : Nat → XV := fun i => (6, 272 + i, 0)
def x_sf_272 : Nat → XV := fun i => (0, ([0, 0, 1] : List Nat).getD i 0, 0)
def x_sf_273 : Nat → XV := fun i => (0, ([0, 0, 1, 1] : List Nat).getD i 0, 0)
def x_sf_274 : Nat → XV := fun i => (0, ([0, 1, 0, 2, 0, 8] : List Nat).getD i 0, 0)
def x_sf_275 : Nat → XV := fun i => (0, ([1, 0, 1, 3] : List Nat).getD i 0, 0)
def x_sf_276 : Nat → XV := fun i => (0, ([2, 2, 0, 4, 3] : List Nat).getD i 0, 0)
def x_sf_312 : Nat → XV := fun i => (6, 313 + i, 0)
def x_sf_313 : Nat → XV := fun i => (0, ([4294967293, 4294967293, 4294967293, 0, 4294967293, 4294967293, 4294967293, 1] : List Nat).getD i 0, 0)
def x_sf_314 : Nat → XV := fun i => (0, ([3, 0, 5, 20, 3, 0, 5, 2048] : List Nat).getD i 0, 0)
def x_sf_315 : Nat → XV := fun i => (0, ([4294967293, 4294967293, 4294967293, 0, 4294967293, 4294967293, 4294967293, 1] : List Nat).getD i 0, 0)
def x_sf_316 : Nat → XV := fun i => (0, ([4294967293, 4294967293, 4294967293, 20, 4294967293, 4294967293, 4294967293, 2048] : List Nat).getD i 0, 0)
def x_sf_317 : Nat → XV := fun i => (0, ([3, 0, 1, 21, 3, 0, 1, 4096] : List Nat).getD i 0, 0)
def x_sf_318 : Nat → XV := fun i => (0, ([4294967293, 4294967293, 4294967293, 20, 4294967293, 4294967293, 4294967293, 2048] : List Nat).getD i 0, 0)
def x_sf_319 : Nat → XV := fun i => (0, ([4294967293, 4294967293, 4294967293, 0, 4294967293, 4294967293, 4294967293, 1] : List Nat).getD i 0, 0)
def x_sf_441 : Nat → XV := fun i => (6, 442 + i, 0)
def x_sf_442 : Nat → XV := fun i => (0, ([1, 6, 30, 5] : List Nat).getD i 0, 0)
def x_sf_448 : Nat → XV := fun i => (0, ([0, 0, 1] : List Nat).getD i 0, 0)
def x_sf_449 : Nat → XV := fun i => (0, ([0, 0, 0, 0, 0, 0, 0, 0, 0, 0, 0, 0, 20] : List Nat).getD i 0, 0)
/-- the Schema's own fields -/
def x_s237 (f : Nat → XV) : Prop := f 0 = (6, 238, 0) ∧ f 1 = (6, 239, 0) ∧ f 2 = (6, 246, 0) ∧ f 3 = (6, 247, 0) ∧ f 4 = (6, 248, 0) ∧ f 5 = (6, 257, 0) ∧ f 6 = (6, 270, 0) ∧ f 7 = (6, 271, 0) ∧ f 8 = (6, 312, 0) ∧ f 9 = (6, 441, 0) ∧ f 10 = (6, 448, 0) ∧ f 11 = (6, 449, 0) ∧ f 12 = (6, 450, 0) ∧ f 13 = (0, 60, 0) ∧ f 14 = (0, 12, 0) ∧ f 15 = (6, 451, 0) ∧ f 17 = (6, 452, 0) ∧ f 18 = (6, 453, 0) ∧ (f 16 = (0, 0, 0) ∨ f 16 = (0, 1, 0))
/-- the schema as tell leaves it -/
def x_sch (φ : FH) : Prop := (∃ f, φ 237 = some (0, 3, 19, f) ∧ x_s237 f) ∧ φ 238 = some (6, 0, 15, x_sf_238) ∧ φ 246 = some (1, 0, 6, x_sf_246) ∧ φ 247 = some (1, 0, 20, x_sf_247) ∧ φ 248 = some (8, 2, 8, x_sf_248) ∧ φ 257 = some (8, 2, 12, x_sf_257) ∧ φ 258 = some (1, 0, 9, x_sf_258) ∧ φ 259 = some (1, 0, 9, x_sf_259) ∧ φ 260 = some (1, 0, 9, x_sf_260) ∧ φ 270 = some (6, 0, 48, x_sf_270) ∧ φ 271 = some (8, 2, 40, x_sf_271) ∧ φ 272 = some (1, 0, 6, x_sf_272) ∧ φ 273 = some (1, 0, 6, x_sf_273) ∧ φ 274 = some (1, 0, 6, x_sf_274) ∧ φ 275 = some (1, 0, 6, x_sf_275) ∧ φ 276 = some (1, 0, 6, x_sf_276) ∧ φ 312 = some (8, 2, 128, x_sf_312) ∧ φ 313 = some (1, 0, 9, x_sf_313) ∧ φ 314 = some (1, 0, 9, x_sf_314) ∧ φ 315 = some (1, 0, 9, x_sf_315) ∧ φ 316 = some (1, 0, 9, x_sf_316) ∧ φ 317 = some (1, 0, 9, x_sf_317) ∧ φ 318 = some (1, 0, 9, x_sf_318) ∧ φ 319 = some (1, 0, 9, x_sf_319) ∧ φ 441 = some (8, 2, 6, x_sf_441) ∧ φ 442 = some (1, 0, 13, x_sf_442) ∧ φ 448 = some (1, 0, 24, x_sf_448) ∧ φ 449 = some (1, 0, 144, x_sf_449)
theorem x_sc_238 {φ : FH} (h : x_sch φ) : φ 238 = some (6, 0, 15, x_sf_238) := h.2.1
theorem x_sc_246 {φ : FH} (h : x_sch φ) : φ 246 = some (1, 0, 6, x_sf_246) := h.2.2.1
theorem x_sc_247 {φ : FH} (h : x_sch φ) : φ 247 = some (1, 0, 20, x_sf_247) := h.2.2.2.1
theorem x_sc_248 {φ : FH} (h : x_sch φ) : φ 248 = some (8, 2, 8, x_sf_248) := h.2.2.2.2.1
theorem x_sc_257 {φ : FH} (h : x_sch φ) : φ 257 = some (8, 2, 12, x_sf_257) := h.2.2.2.2.2.1
theorem x_sc_258 {φ : FH} (h : x_sch φ) : φ 258 = some (1, 0, 9, x_sf_258) := h.2.2.2.2.2.2.1
theorem x_sc_259 {φ : FH} (h : x_sch φ) : φ 259 = some (1, 0, 9, x_sf_259) := h.2.2.2.2.2.2.2.1
theorem x_sc_260 {φ : FH} (h : x_sch φ) : φ 260 = some (1, 0, 9, x_sf_260) := h.2.2.2.2.2.2.2.2.1
theorem x_sc_270 {φ : FH} (h : x_sch φ) : φ 270 = some (6, 0, 48, x_sf_270) := h.2.2.2.2.2.2.2.2.2.1
theorem x_sc_271 {φ : FH} (h : x_sch φ) : φ 271 = some (8, 2, 40, x_sf_271) := h.2.2.2.2.2.2.2.2.2.2.1
theorem x_sc_272 {φ : FH} (h : x_sch φ) : φ 272 = some (1, 0, 6, x_sf_272) := h.2.2.2.2.2.2.2.2.2.2.2.1
theorem x_sc_273 {φ : FH} (h : x_sch φ) : φ 273 = some (1, 0, 6, x_sf_273) := h.2.2.2.2.2.2.2.2.2.2.2.2.1
theorem x_sc_274 {φ : FH} (h : x_sch φ) : φ 274 = some (1, 0, 6, x_sf_274) := h.2.2.2.2.2.2.2.2.2.2.2.2.2.1
theorem x_sc_275 {φ : FH} (h : x_sch φ) : φ 275 = some (1, 0, 6, x_sf_275) := h.2.2.2.2.2.2.2.2.2.2.2.2.2.2.1
theorem x_sc_276 {φ : FH} (h : x_sch φ) : φ 276 = some (1, 0, 6, x_sf_276) := h.2.2.2.2.2.2.2.2.2.2.2.2.2.2.2.1
theorem x_sc_312 {φ : FH} (h : x_sch φ) : φ 312 = some (8, 2, 128, x_sf_312) := h.2.2.2.2.2.2.2.2.2.2.2.2.2.2.2.2.1
theorem x_sc_313 {φ : FH} (h : x_sch φ) : φ 313 = some (1, 0, 9, x_sf_313) := h.2.2.2.2.2.2.2.2.2.2.2.2.2.2.2.2.2.1
theorem x_sc_314 {φ : FH} (h : x_sch φ) : φ 314 = some (1, 0, 9, x_sf_314) := h.2.2.2.2.2.2.2.2.2.2.2.2.2.2.2.2.2.2.1
theorem x_sc_315 {φ : FH} (h : x_sch φ) : φ 315 = some (1, 0, 9, x_sf_315) := h.2.2.2.2.2.2.2.2.2.2.2.2.2.2.2.2.2.2.2.1
theorem x_sc_316 {φ : FH} (h : x_sch φ) : φ 316 = some (1, 0, 9, x_sf_316) := h.2.2.2.2.2.2.2.2.2.2.2.2.2.2.2.2.2.2.2.2.1
theorem x_sc_317 {φ : FH} (h : x_sch φ) : φ 317 = some (1, 0, 9, x_sf_317) := h.2.2.2.2.2.2.2.2.2.2.2.2.2.2.2.2.2.2.2.2.2.1
theorem x_sc_318 {φ : FH} (h : x_sch φ) : φ 318 = some (1, 0, 9, x_sf_318) := h.2.2.2.2.2.2.2.2.2.2.2.2.2.2.2.2.2.2.2.2.2.2.1
theorem x_sc_319 {φ : FH} (h : x_sch φ) : φ 319 = some (1, 0, 9, x_sf_319) := h.2.2.2.2.2.2.2.2.2.2.2.2.2.2.2.2.2.2.2.2.2.2.2.1
theorem x_sc_441 {φ : FH} (h : x_sch φ) : φ 441 = some (8, 2, 6, x_sf_441) := h.2.2.2.2.2.2.2.2.2.2.2.2.2.2.2.2.2.2.2.2.2.2.2.2.1
theorem x_sc_442 {φ : FH} (h : x_sch φ) : φ 442 = some (1, 0, 13, x_sf_442) := h.2.2.2.2.2.2.2.2.2.2.2.2.2.2.2.2.2.2.2.2.2.2.2.2.2.1
theorem x_sc_448 {φ : FH} (h : x_sch φ) : φ 448 = some (1, 0, 24, x_sf_448) := h.2.2.2.2.2.2.2.2.2.2.2.2.2.2.2.2.2.2.2.2.2.2.2.2.2.2.1
theorem x_sc_449 {φ : FH} (h : x_sch φ) : φ 449 = some (1, 0, 144, x_sf_449) := h.2.2.2.2.2.2.2.2.2.2.2.2.2.2.2.2.2.2.2.2.2.2.2.2.2.2.2
theorem x_sch_at {φ φ1 : FH} (h : x_sch φ) (e : ∀ j, 237 ≤ j → j ≤ 449 → φ1 j = φ j) : x_sch φ1 :=
  ⟨h.1.imp (fun _ q => ⟨(e 237 (by decide) (by decide)).trans q.1, q.2⟩), (e 238 (by decide) (by decide)).trans (x_sc_238 h), (e 246 (by decide) (by decide)).trans (x_sc_246 h), (e 247 (by decide) (by decide)).trans (x_sc_247 h), (e 248 (by decide) (by decide)).trans (x_sc_248 h), (e 257 (by decide) (by decide)).trans (x_sc_257 h), (e 258 (by decide) (by decide)).trans (x_sc_258 h), (e 259 (by decide) (by decide)).trans (x_sc_259 h), (e 260 (by decide) (by decide)).trans (x_sc_260 h), (e 270 (by decide) (by decide)).trans (x_sc_270 h), (e 271 (by decide) (by decide)).trans (x_sc_271 h), (e 272 (by decide) (by decide)).trans (x_sc_272 h), (e 273 (by decide) (by decide)).trans (x_sc_273 h), (e 274 (by decide) (by decide)).trans (x_sc_274 h), (e 275 (by decide) (by decide)).trans (x_sc_275 h), (e 276 (by decide) (by decide)).trans (x_sc_276 h), (e 312 (by decide) (by decide)).trans (x_sc_312 h), (e 313 (by decide) (by decide)).trans (x_sc_313 h), (e 314 (by decide) (by decide)).trans (x_sc_314 h), (e 315 (by decide) (by decide)).trans (x_sc_315 h), (e 316 (by decide) (by decide)).trans (x_sc_316 h), (e 317 (by decide) (by decide)).trans (x_sc_317 h), (e 318 (by decide) (by decide)).trans (x_sc_318 h), (e 319 (by decide) (by decide)).trans (x_sc_319 h), (e 441 (by decide) (by decide)).trans (x_sc_441 h), (e 442 (by decide) (by decide)).trans (x_sc_442 h), (e 448 (by decide) (by decide)).trans (x_sc_448 h), (e 449 (by decide) (by decide)).trans (x_sc_449 h)⟩
end FPOP11
