/-! the law keeps its contract -/
theorem kokl : aOK kS krf kB kEl := kok1150
