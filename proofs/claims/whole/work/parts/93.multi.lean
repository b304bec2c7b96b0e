#print Op.multianewarray
#print Op.multianewarray.run
theorem zz1 : True := by
  have h := @W.aast
  trace_state
  trivial
