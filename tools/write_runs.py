import sys; sys.path.insert(0,__import__('os').path.dirname(__import__('os').path.abspath(__file__)))
import random_texts,random_edits,random_heads,collections,os
out=[]
def stat(s):
    d=collections.Counter()
    for c,e in zip(s.cmds,s.exp):
        k=c.split()[0]
        if k in('make','run','meet','touch','weave','choose','word'):
            v=e.split(' = ')[1]
            if k=='make' and int(v)>=0: v='ok'
            d[(k,v)]+=1
    return d
cov=collections.Counter(); chosen=[]
import random
cands=[('random_texts',random_texts.scenario,s) for s in range(1000,1020)]+[('random_edits',random_edits.scenario,s) for s in range(0,40)]+[('random_heads',random_heads.scenario,s) for s in range(100,220)]
pool=[]
for n,f,sd in cands:
    s=f(sd); pool.append((n,sd,s,stat(s),sum(len(x)+1 for x in s.exp)+sum(len(c)+1 for c in s.cmds if c.startswith('TAPE'))))
while len(chosen)<16:
    best=max(pool,key=lambda p:sum(1 for k in p[3] if not cov[k])*1000-p[4]/200)
    if sum(1 for k in best[3] if not cov[k])==0: break
    chosen.append(best); pool.remove(best); cov.update(best[3])
    print(best[0],best[1],best[4],len(best[2].cmds))
os.makedirs('golden',exist_ok=True)
for n,sd,s,st,sz in chosen:
    with open('golden/%s-%d.txt'%(n,sd),'w',encoding='latin-1') as o:
        for c,e in zip(s.cmds,s.exp):
            o.write(c if c.startswith('TAPE') or c=='NEW' else e); o.write('\n')
print(sum(p[4] for p in chosen))
